/** Promises 24 to 32: judge, lots, list, set, get, into, image, back, count. */
public final class RowsTest {
    private static final Checks CHECKS = new Checks("RowsTest");
    private static final String WIDE = "-971x^4+977x^3+983x^2-991x+997";

    public static void main(String[] args) {
        judge();
        judgeOtherwise();
        lots();
        list();
        setAndGet();
        into();
        imageAndBack();
        count();
        CHECKS.end();
    }

    private static void judge() {
        RootFence x = Checks.with("x^3-6x^2+11x-6", "x^2+1", WIDE);
        Checks.row(x, 0, 0, 1, 1, 1, 2, 2, 4, 2, 5, 2, 1000, 1, 77);
        CHECKS.due("all told", x.judge(0, 0, 0), -5);
        CHECKS.due("from a place on", x.judge(0, 0, 1), 0);
        CHECKS.due("two places left", x.judge(0, 0, 11), 100);
        CHECKS.due("behind the end", x.judge(0, 0, Integer.MAX_VALUE), 100);
        CHECKS.due("without roots", x.judge(1, 0, Integer.MAX_VALUE), -5);
        Checks.row(x, 1, 0, 1, 1, 1, 1, 1, 2, 1, 2, 1, 3);
        CHECKS.due("the list ends ahead of the third", x.judge(0, 1, 0), 102);
        x.set(1, 4, 3);
        CHECKS.due("the second is otherwise", x.judge(0, 1, 0), 1);
        Checks.row(x, 2);
        CHECKS.due("an empty row", x.judge(0, 2, 0), 100);
        CHECKS.due("an empty row without roots", x.judge(1, 2, 0), -5);
        CHECKS.due("nothing there", x.judge(0, 3, 0), Checks.NOTHING);
        CHECKS.due("nothing there, without roots", x.judge(1, 3, 0), Checks.NOTHING);
        CHECKS.due("no p", x.judge(3, 3, 0), Checks.BAD);
        CHECKS.due("p -1", x.judge(-1, 0, 0), Checks.BAD);
        CHECKS.due("no list", x.judge(0, 4, 0), Checks.BAD);
        CHECKS.due("list -1", x.judge(0, -1, 0), Checks.BAD);
        CHECKS.due("q -1", x.judge(0, 0, -1), Checks.BAD);
        CHECKS.due("bad goes ahead of nothing", x.judge(0, 3, -1), Checks.BAD);
        CHECKS.due("beyond", x.judge(2, 0, 99), Checks.FULL);
        CHECKS.due("nothing goes ahead of full", x.judge(2, 3, 0), Checks.NOTHING);
    }

    private static void judgeOtherwise() {
        RootFence x = Checks.with("x^3-6x^2+11x-6");
        int[][] otherwise = {
            {0, 1, 2, 1}, {-1, 1, 0, 1}, {1, 1, 2, 1}, {1, 1, 3, 2}, {1, 1, 1, 1}, {1, 1, 0, 1},
            {-1001, 1, 1, 1}, {0, 1, 1001, 1000}, {0, 0, 1, 1}, {0, 1, 1, 0}, {0, -1, 1, 1}, {0, 1, -1, -1},
            {0, 1001, 1, 1}, {Integer.MIN_VALUE, 1, 1, 1}, {0, Integer.MIN_VALUE, 1, Integer.MAX_VALUE},
        };
        for (int[] told : otherwise) {
            Checks.row(x, 0, told);
            CHECKS.due("otherwise " + told[0] + " " + told[1] + " " + told[2] + " " + told[3], x.judge(0, 0, 0), 0);
        }
        Checks.row(x, 0, -1000, 1, 1999 / 2, 1000);
        CHECKS.due("short of the root", x.judge(0, 0, 0), 0);
        Checks.row(x, 0, -1000, 1, 1000, 1000);
        CHECKS.due("up to the root", x.judge(0, 0, 0), 101);
        Checks.row(x, 0, 999, 1000, 1, 1, 0, 1, 3, 2, 2, 1, 3, 1);
        CHECKS.due("the second told is the first root's", x.judge(0, 0, 0), 1);
    }

    private static int lotsByHand(int n, int degree, int m, int z) {
        int seed = z;
        int many = 0;
        for (int drawn = 0; drawn < n; drawn++) {
            int[] c = new int[5];
            for (int power = 0; power <= degree; power++) {
                seed = seed * 1103515245 + 12345;
                c[power] = ((seed & 0x7fffffff) >> 16) % (2 * m + 1) - m;
            }
            c[degree] = c[degree] == 0 ? 1 : c[degree];
            RootFence x = new RootFence();
            x.poly(c[0], c[1], c[2], c[3], c[4]);
            many += x.roots(0);
        }
        return many;
    }

    private static void lots() {
        RootFence x = new RootFence();
        CHECKS.due("lots(12, 3, 9, 5)", x.lots(12, 3, 9, 5), 16);
        CHECKS.due("lots(3, 1, 2, -7)", x.lots(3, 1, 2, -7), 3);
        for (int z : new int[] {0, 1, -1, 99, Integer.MIN_VALUE, Integer.MAX_VALUE}) {
            for (int degree = 1; degree <= 3; degree++) {
                for (int m = 1; m <= 9; m++) {
                    String name = "lots(12, " + degree + ", " + m + ", " + z + ")";
                    CHECKS.due(name, x.lots(12, degree, m, z), lotsByHand(12, degree, m, z));
                    CHECKS.due("one of " + name, x.lots(1, degree, m, z), lotsByHand(1, degree, m, z));
                }
            }
        }
        CHECKS.due("n 0", x.lots(0, 1, 1, 1), Checks.BAD);
        CHECKS.due("n 13", x.lots(13, 1, 1, 1), Checks.BAD);
        CHECKS.due("degree 0", x.lots(1, 0, 1, 1), Checks.BAD);
        CHECKS.due("degree 4", x.lots(1, 4, 1, 1), Checks.BAD);
        CHECKS.due("m 0", x.lots(1, 1, 0, 1), Checks.BAD);
        CHECKS.due("m 10", x.lots(1, 1, 10, 1), Checks.BAD);
        CHECKS.due("none came", x.count(0), 0);
    }

    private static void list() {
        RootFence x = new RootFence();
        CHECKS.due("list(0, 24)", x.list(0, 24), 1);
        CHECKS.due("its last", x.get(0, 23), 0);
        CHECKS.due("list(3, 0)", x.list(3, 0), 1);
        CHECKS.due("it has no place", x.set(3, 0, 1), Checks.BEYOND);
        CHECKS.due("list(0, 25)", x.list(0, 25), Checks.BAD);
        CHECKS.due("list(0, -1)", x.list(0, -1), Checks.BELOW);
        CHECKS.due("list(4, 1)", x.list(4, 1), Checks.BAD);
        CHECKS.due("list(-1, 1)", x.list(-1, 1), Checks.BAD);
        CHECKS.due("list(4, -1)", x.list(4, -1), Checks.BAD);
        x.set(0, 0, 5);
        CHECKS.due("list(0, 25)", x.list(0, 25), Checks.BAD);
        CHECKS.due("it stays", x.get(0, 0), 5);
        CHECKS.due("list(0, 2)", x.list(0, 2), 1);
        CHECKS.due("all 0 anew", x.get(0, 0), 0);
        CHECKS.due("shorter", x.get(0, 2), Checks.NO);
    }

    private static void setAndGet() {
        RootFence x = new RootFence();
        for (int list = 0; list < 4; list++) {
            x.list(list, 3);
            for (int i = 0; i < 3; i++) {
                CHECKS.due("set", x.set(list, i, 10 * list + i), 1);
            }
        }
        for (int list = 0; list < 4; list++) {
            for (int i = 0; i < 3; i++) {
                CHECKS.due("get", x.get(list, i), 10 * list + i);
            }
            CHECKS.due("set beyond", x.set(list, 3, 1), Checks.BEYOND);
            CHECKS.due("set ahead", x.set(list, -1, 1), Checks.BEYOND);
            CHECKS.due("get beyond", x.get(list, 3), Checks.NO);
            CHECKS.due("get ahead", x.get(list, -1), Checks.NO);
        }
        CHECKS.due("set min", x.set(1, 1, Integer.MIN_VALUE), 1);
        CHECKS.due("get min", x.get(1, 1), Integer.MIN_VALUE);
        CHECKS.due("no list", x.set(4, 9, 1), Checks.BAD);
        CHECKS.due("list -1", x.set(-1, 0, 1), Checks.BAD);
        CHECKS.due("no list", x.get(4, 0), Checks.NO);
        CHECKS.due("list -1", x.get(-1, 0), Checks.NO);
        CHECKS.due("nothing there", new RootFence().set(0, 0, 1), Checks.NOTHING);
        CHECKS.due("nothing there", new RootFence().set(0, -1, 1), Checks.NOTHING);
    }

    private static void into() {
        RootFence x = Checks.with("-5x^4+3x^2-2x+1");
        Checks.row(x, 0, 9, 9, 9, 9, 9, 9, 9);
        CHECKS.due("all five", x.into(0, 0, 1), 5);
        long[] want = {9, 1, -2, 3, 0, -5, 9};
        for (int i = 0; i < 7; i++) {
            CHECKS.due("place " + i, x.get(0, i), want[i]);
        }
        CHECKS.due("to the end", x.into(0, 0, 5), 2);
        CHECKS.due("its last", x.get(0, 6), -2);
        CHECKS.due("at the end", x.into(0, 0, 7), 0);
        CHECKS.due("far beyond", x.into(0, 0, Integer.MAX_VALUE), 0);
        CHECKS.due("q -1", x.into(0, 0, -1), Checks.BEYOND);
        CHECKS.due("nothing there", x.into(0, 1, -1), Checks.NOTHING);
        CHECKS.due("no p", x.into(1, 1, -1), Checks.BAD);
        CHECKS.due("p -1", x.into(-1, 0, 0), Checks.BAD);
        CHECKS.due("no list", x.into(0, 4, 0), Checks.BAD);
        CHECKS.due("list -1", x.into(0, -1, 0), Checks.BAD);
        x.list(2, 0);
        CHECKS.due("an empty row", x.into(0, 2, 0), 0);
    }

    private static void imageAndBack() {
        RootFence x = Checks.with("x", "x-1");
        CHECKS.due("back without", x.back(), Checks.STATE);
        CHECKS.due("image", x.image(), 2);
        x.drop();
        Checks.read(x, "=5;=6");
        CHECKS.due("three", x.count(0), 3);
        CHECKS.due("back", x.back(), 2);
        CHECKS.due("state", Checks.state(x), "0,1,0,0,0, -1,1,0,0,0, 0/0");
        x.drop();
        x.drop();
        x.poly(9, 0, 0, 0, 0);
        CHECKS.due("back once more", x.back(), 2);
        CHECKS.due("state", Checks.state(x), "0,1,0,0,0, -1,1,0,0,0, 0/0");
        x.list(0, 2);
        x.prints(1);
        x.feed('x');
        CHECKS.due("back", x.back(), 2);
        CHECKS.due("lists stay", x.get(0, 1), 0);
        CHECKS.due("the paper stays", x.count(2), 3);
        CHECKS.due("the tape stays", x.count(1), 1);
        RootFence y = new RootFence();
        CHECKS.due("image of none", y.image(), 0);
        y.poly(1, 0, 0, 0, 0);
        CHECKS.due("back to none", y.back(), 0);
        CHECKS.due("none", y.count(0), 0);
    }

    private static void count() {
        RootFence x = Checks.with("x^2-1", "x");
        Checks.feed(x, "abc");
        x.prints(0);
        CHECKS.due("count(0)", x.count(0), 2);
        CHECKS.due("count(1)", x.count(1), 3);
        CHECKS.due("count(2)", x.count(2), 5);
        CHECKS.due("count(3)", x.count(3), Checks.BAD);
        CHECKS.due("count(-1)", x.count(-1), Checks.BAD);
    }
}
