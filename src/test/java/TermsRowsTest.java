/** 'Terms', JUDGED to THE IMAGE: each sentence that names an edge has a test of its own. */
public final class TermsRowsTest {
    private static final Checks CHECKS = new Checks("TermsRowsTest");
    private static final String THREE = "x^3-6x^2+11x-6";

    public static void main(String[] args) {
        judgedFromAPlace();
        judgedNumbers();
        judgedOrder();
        judgedOneWithin();
        judgedFirstOtherwise();
        judgedNone();
        judgedListEnds();
        lotTold();
        lotHead();
        lotSeed();
        tape();
        paper();
        lists();
        image();
        imageKeepsPolynomials();
        CHECKS.end();
    }

    /** What judge() of a polynomial says of a list that holds just these, from its first place on. */
    private static void judged(String poly, int want, int... told) {
        RootFence x = Checks.with(poly);
        Checks.row(x, 0, told);
        CHECKS.due("judge of " + poly + " by '" + Checks.rowText(x, 0) + "'", x.judge(0, 0, 0), want);
    }

    private static void judgedFromAPlace() {
        CHECKS.sentence("a LIST tells from a place on four numbers for each ROOT of P, by number");
        for (int list = 0; list < 4; list++) {
            for (int from = 0; from <= 16; from++) {
                RootFence x = Checks.with("x^2-3x+2");
                x.list(list, 24);
                int[] told = {0, 1, 1, 1, 1, 1, 2, 1};
                for (int i = 0; i < 8; i++) {
                    x.set(list, from + i, told[i]);
                }
                CHECKS.due("from " + from + " of list " + list, x.judge(0, list, from), -5);
                CHECKS.due("from one place later", x.judge(0, list, from + 1), 0);
            }
        }
        judged("x^2-3x+2", -5, 0, 1, 1, 1, 1, 1, 2, 1);
        judged("x^2-3x+2", 0, 1, 1, 2, 1, 0, 1, 1, 1);
    }

    private static void judgedNumbers() {
        CHECKS.sentence("u, v -1000 .. 1000, v above 0; numbers out of range are otherwise");
        judged("x", -5, -1000, 1, 1000, 1);
        judged("x", -5, -1000, 1000, 1000, 1000);
        judged("x", -5, -1, 1000, 1, 1000);
        judged("x", 0, -1001, 1, 1000, 1);
        judged("x", 0, -1000, 1, 1001, 1);
        judged("x", 0, -1000, 0, 1000, 1);
        judged("x", 0, -1000, 1, 1000, 0);
        judged("x", 0, 1000, -1, 1000, 1);
        judged("x", 0, -1000, 1, -1000, -1);
        judged("x", 0, -1, 1001, 1, 1000);
        judged("x", 0, -1, 1000, 1, 1001);
        judged("x", 0, Integer.MIN_VALUE, 1, 1, 1);
        judged("x", 0, -1, Integer.MAX_VALUE, 1, 1);
        judged("x", 0, -1, 1, Integer.MAX_VALUE, 1);
        judged("x", 0, -1, 1, 1, Integer.MIN_VALUE);
        CHECKS.sentence("JUDGED: ends u by v need not be in lowest terms");
        judged("2x-1", -5, 0, 7, 2, 4);
        judged("2x-1", -5, 249, 500, 500, 1000);
    }

    private static void judgedOrder() {
        CHECKS.sentence("the first POINT below the second");
        judged("x", 0, 0, 1, 0, 1);
        judged("x", 0, 1, 1, -1, 1);
        judged("x-1", 0, 1, 1, 1, 1);
        judged("x-1", 0, 1, 2, 2, 4);
        judged("x-1", 0, 1, 1, 999, 1000);
        judged("2x-1", -5, 499, 999, 1, 2);
        judged("2x-1", 0, 1, 2, 499, 999);
    }

    private static void judgedOneWithin() {
        CHECKS.sentence("just one ROOT within, and that one");
        judged(THREE, 101, 0, 1, 1, 1);
        judged(THREE, 101, 0, 1, 3, 2);
        judged(THREE, 101, -1000, 1, 999, 500);
        judged(THREE, 0, 0, 1, 2, 1);
        judged(THREE, 0, 0, 1, 1000, 1);
        judged(THREE, 0, 1, 1, 2, 1);
        judged(THREE, 0, 1, 1, 3, 2);
        judged(THREE, 0, 0, 1, 999, 1000);
        judged(THREE, 0, 3, 1, 4, 1);
        judged("x^2+2x+1", -5, -2, 1, -1, 1);
        judged("x^2+2x+1", 0, -1, 1, 0, 1);
        judged("x-999", -5, 998, 1, 999, 1);
        judged("x-999", -5, -1000, 1, 1000, 1);
    }

    private static void judgedFirstOtherwise() {
        CHECKS.sentence("the first ROOT of which they are otherwise");
        judged(THREE, -5, 0, 1, 1, 1, 1, 1, 2, 1, 2, 1, 3, 1);
        judged(THREE, 0, 0, 1, 2, 1, 0, 1, 1, 1, 2, 1, 4, 0);
        judged(THREE, 1, 0, 1, 1, 1, 1, 1, 3, 1, 2, 1, 4, 0);
        judged(THREE, 2, 0, 1, 1, 1, 1, 1, 2, 1, 2, 1, 4, 0);
        judged(THREE, 1, 0, 1, 1, 1, 0, 1, 1, 1, 2, 1, 3, 1);
        judged(THREE, 1, 0, 1, 1, 1, 2, 1, 3, 1, 1, 1, 2, 1);
        judged(THREE, 2, 0, 1, 1, 1, 1, 1, 2, 1, 3, 1, 4, 1);
        judged("x^4-10x^2+1", -5, -4, 1, -3, 1, -1, 1, 0, 1, 0, 1, 1, 1, 3, 1, 4, 1);
        judged("x^4-10x^2+1", 3, -4, 1, -3, 1, -1, 1, 0, 1, 0, 1, 1, 1, 0, 1, 4, 1);
    }

    private static void judgedNone() {
        CHECKS.sentence("-5: none; without ROOTS wherever q is");
        RootFence x = Checks.with("x^2+1", "7", THREE);
        x.list(0, 0);
        Checks.row(x, 1, 9, 9, 9);
        for (int q : new int[] {0, 1, 3, 4, 24, 25, Integer.MAX_VALUE}) {
            CHECKS.due("an empty list, from " + q, x.judge(0, 0, q), -5);
            CHECKS.due("a short list, from " + q, x.judge(1, 1, q), -5);
        }
        CHECKS.due("from -1", x.judge(0, 1, -1), Checks.BAD);
        CHECKS.due("a list that holds nothing", x.judge(0, 2, 0), Checks.NOTHING);
    }

    private static void judgedListEnds() {
        CHECKS.sentence("100 and how many were looked at, if the four numbers of one aren't all there");
        int[] told = {0, 1, 1, 1, 1, 1, 2, 1, 2, 1, 3, 1};
        for (int length = 0; length <= 12; length++) {
            int[] some = new int[length];
            System.arraycopy(told, 0, some, 0, length);
            judged(THREE, length == 12 ? -5 : 100 + length / 4, some);
        }
        judged(THREE, -5, 0, 1, 1, 1, 1, 1, 2, 1, 2, 1, 3, 1, 0);
        RootFence x = Checks.with("x");
        x.list(0, 24);
        x.set(0, 20, -1);
        x.set(0, 21, 1);
        x.set(0, 23, 1);
        CHECKS.due("the last four", x.judge(0, 0, 20), -5);
        for (int q : new int[] {21, 22, 23, 24, 25, 1000, Integer.MAX_VALUE - 3, Integer.MAX_VALUE}) {
            CHECKS.due("from " + q, x.judge(0, 0, q), 100);
        }
        CHECKS.sentence("judge(): the LIST's end goes ahead");
        judged(THREE, 100, 7, 0, -7);
        judged(THREE, 101, 0, 1, 1, 1, 9, 0, -9);
        judged(THREE, 102, 0, 1, 1, 1, 1, 1, 2, 1, Integer.MIN_VALUE);
    }

    private static int seed = 0;

    private static int draw(int below) {
        seed = seed * 1103515245 + 12345;
        return (seed & 0x7fffffff) / 65536 % below;
    }

    /** By LOT, each polynomial laid into an object of its own. */
    private static int byLot(int n, int degree, int m, int z) {
        seed = z;
        int many = 0;
        for (int drawn = 0; drawn < n; drawn++) {
            int[] c = new int[5];
            for (int power = 0; power <= degree; power++) {
                c[power] = draw(2 * m + 1) - m;
            }
            c[degree] = c[degree] == 0 ? 1 : c[degree];
            RootFence x = new RootFence();
            x.poly(c[0], c[1], c[2], c[3], c[4]);
            many += x.roots(0);
        }
        return many;
    }

    private static void lotTold() {
        CHECKS.sentence("By LOT: how many ROOTS all have together");
        RootFence x = new RootFence();
        for (int n = 1; n <= 12; n++) {
            for (int degree = 1; degree <= 3; degree++) {
                for (int m = 1; m <= 9; m++) {
                    int z = 7919 * n + 104729 * degree - 1299709 * m;
                    CHECKS.due("lots(" + n + ", " + degree + ", " + m + ", " + z + ")", x.lots(n, degree, m, z), byLot(n, degree, m, z));
                }
            }
        }
        CHECKS.due("lots(12, 3, 9, 5)", x.lots(12, 3, 9, 5), 16);
        CHECKS.due("lots(3, 1, 2, -7)", x.lots(3, 1, 2, -7), 3);
    }

    private static void lotHead() {
        CHECKS.sentence("its HEAD 1, if that is 0; all DRAWS go ahead of a HEAD that becomes 1");
        RootFence x = new RootFence();
        for (int z = -60; z < 60; z++) {
            CHECKS.due("a HEAD of degree 1 is never 0, " + z, x.lots(12, 1, 1, z), 12);
            CHECKS.due("degree 2, m 1, " + z, x.lots(12, 2, 1, z), byLot(12, 2, 1, z));
            CHECKS.due("degree 3, m 1, " + z, x.lots(12, 3, 1, z), byLot(12, 3, 1, z));
        }
    }

    private static void lotSeed() {
        CHECKS.sentence("z times 1103515245 plus 12345 (an int); z without its sign's bit over 65536, cut");
        RootFence x = new RootFence();
        for (int z : new int[] {0, 1, -1, 65535, 65536, -65536, Integer.MAX_VALUE, Integer.MIN_VALUE, Integer.MIN_VALUE + 1}) {
            for (int m = 1; m <= 9; m++) {
                CHECKS.due("lots(12, 2, " + m + ", " + z + ")", x.lots(12, 2, m, z), byLot(12, 2, m, z));
            }
        }
        CHECKS.due("the seed is told anew each time", x.lots(12, 2, 9, 4), x.lots(12, 2, 9, 4));
        CHECKS.due("none is kept", x.count(0), 0);
    }

    private static void tape() {
        CHECKS.sentence("THE TAPE holds 0 .. 120 bytes");
        RootFence x = new RootFence();
        CHECKS.due("at first", x.count(1), 0);
        for (int i = 1; i <= 120; i++) {
            CHECKS.due("byte " + i, x.feed(i), i);
        }
        CHECKS.refused(x, "byte 121", () -> x.feed(121), Checks.FULL);
        CHECKS.due("count(1)", x.count(1), 120);
        CHECKS.due("reads", x.reads(), -1000);
        CHECKS.due("count(1) behind reads()", x.count(1), 0);
        CHECKS.due("a byte again", x.feed(1), 1);
    }

    private static void paper() {
        CHECKS.sentence("THE PAPER what was printed last (nothing at first)");
        RootFence x = Checks.with("-999x^4-999x^3-999x^2-999x-999", "7");
        CHECKS.due("at first", x.count(2), 0);
        CHECKS.due("its byte 0 at first", x.paper(0), Checks.NOT);
        CHECKS.due("prints(0)", x.prints(0), 30);
        CHECKS.due("its last byte", x.paper(29), '9');
        CHECKS.due("behind its last byte", x.paper(30), Checks.NOT);
        CHECKS.due("prints(1)", x.prints(1), 1);
        CHECKS.due("its byte", x.paper(0), '7');
        CHECKS.due("no byte of what was printed ahead", x.paper(1), Checks.NOT);
    }

    private static void lists() {
        CHECKS.sentence("LISTS 0 .. 3 hold nothing (at first)");
        RootFence x = new RootFence();
        for (int list = 0; list < 4; list++) {
            CHECKS.due("get", x.get(list, 0), Checks.NO);
            CHECKS.due("set", x.set(list, 0, 1), Checks.NOTHING);
        }
        CHECKS.sentence("or a row of 0 .. 24 ints (0 at first)");
        for (int n = 0; n <= 24; n++) {
            RootFence y = new RootFence();
            CHECKS.due("list(3, " + n + ")", y.list(3, n), 1);
            CHECKS.due("row", Checks.rowText(y, 3), n == 0 ? "" : "0" + " 0".repeat(n - 1));
            CHECKS.due("set behind the last", y.set(3, n, 1), Checks.BEYOND);
            for (int i = 0; i < n; i++) {
                CHECKS.due("set", y.set(3, i, i + 1), 1);
            }
            CHECKS.due("list(3, " + n + ") anew", y.list(3, n), 1);
            CHECKS.due("row anew", Checks.rowText(y, 3), n == 0 ? "" : "0" + " 0".repeat(n - 1));
            CHECKS.due("list 2 holds nothing", y.get(2, 0), Checks.NO);
        }
        Checks.row(x, 3, 7, 8, 9);
        CHECKS.refused(x, "list(3, 25)", () -> x.list(3, 25), Checks.BAD);
        CHECKS.refused(x, "list(3, -1)", () -> x.list(3, -1), Checks.BELOW);
        CHECKS.refused(x, "list(4, 1)", () -> x.list(4, 1), Checks.BAD);
        CHECKS.refused(x, "list(-1, 1)", () -> x.list(-1, 1), Checks.BAD);
        CHECKS.due("list(3, 1)", x.list(3, 1), 1);
        CHECKS.due("shorter, all 0", Checks.rowText(x, 3), "0");
    }

    private static void image() {
        CHECKS.sentence("THE IMAGE keeps POLYNOMIALS");
        RootFence x = new RootFence();
        CHECKS.due("back() with none", x.back(), Checks.STATE);
        CHECKS.due("image() of none", x.image(), 0);
        CHECKS.due("back() to none", x.back(), 0);
        for (int i = 0; i < 8; i++) {
            x.poly(i, i + 1, -i, 2 * i, 100 - i);
        }
        String eight = Checks.state(x);
        CHECKS.due("image() of eight", x.image(), 8);
        for (int i = 0; i < 8; i++) {
            x.drop();
        }
        x.poly(1, 0, 0, 0, 0);
        CHECKS.due("back()", x.back(), 8);
        CHECKS.due("eight", Checks.state(x), eight);
        CHECKS.due("full again", x.poly(1, 0, 0, 0, 0), Checks.FULL);
        x.drop();
        CHECKS.due("the image is kept", x.back(), 8);
        CHECKS.due("eight", Checks.state(x), eight);
        x.drop();
        CHECKS.due("image() anew", x.image(), 7);
        x.drop();
        CHECKS.due("back() to the newer", x.back(), 7);
    }

    private static void imageKeepsPolynomials() {
        CHECKS.sentence("THE IMAGE keeps POLYNOMIALS, and nothing else");
        RootFence x = Checks.with("x", "x-1");
        Checks.row(x, 0, 1, 2);
        x.prints(1);
        Checks.feed(x, "=7");
        x.image();
        x.set(0, 0, 9);
        x.list(1, 1);
        x.prints(0);
        x.feed('7');
        x.drop();
        CHECKS.due("back()", x.back(), 2);
        CHECKS.due("state", Checks.wholeState(x), "0,1,0,0,0, -1,1,0,0,0, 3/1 9 2; 0; ; ;x");
        CHECKS.due("reads()", x.reads(), 1);
        CHECKS.due("what was read", Checks.printed(x, 2), "77");
        CHECKS.due("image() doesn't change what is there", x.image(), 3);
        CHECKS.due("count(0)", x.count(0), 3);
    }
}
