/** Promises 8 to 14: chain, changes, roots, within, bound, fence, times. */
public final class ChainsTest {
    private static final Checks CHECKS = new Checks("ChainsTest");
    private static final String WIDE = "-971x^4+977x^3+983x^2-991x+997";

    public static void main(String[] args) {
        chain();
        changes();
        roots();
        within();
        bound();
        fence();
        fenceWithout();
        times();
        CHECKS.end();
    }

    private static void chain() {
        RootFence x = Checks.with("x^3-6x^2+11x-6", "-2x^2+4x-2", "5", WIDE, "x^4-10x^2+1");
        CHECKS.due("chain(0, -1, 0)", x.chain(0, -1, 0), 4);
        for (int power : new int[] {-1, 5, 99, Integer.MIN_VALUE, Integer.MAX_VALUE}) {
            CHECKS.due("chain(0, -1, " + power + ")", x.chain(0, -1, power), 4);
        }
        CHECKS.due("chain(0, min, 0)", x.chain(0, Integer.MIN_VALUE, 0), Checks.NO);
        CHECKS.due("chain(0, max, 0)", x.chain(0, Integer.MAX_VALUE, 0), Checks.NO);
        long[][] want = {{-6, 11, -6, 1, 0}, {11, -12, 3, 0, 0}, {-2, 1, 0, 0, 0}, {1, 0, 0, 0, 0}};
        for (int k = 0; k < 4; k++) {
            for (int power = 0; power < 5; power++) {
                CHECKS.due("chain(0, " + k + ", " + power + ")", x.chain(0, k, power), want[k][power]);
            }
        }
        CHECKS.due("chain(0, 4, 0)", x.chain(0, 4, 0), Checks.NO);
        CHECKS.due("chain(0, -2, 0)", x.chain(0, -2, 0), Checks.NO);
        CHECKS.due("chain(0, 0, 5)", x.chain(0, 0, 5), Checks.NO);
        CHECKS.due("chain(0, 0, -1)", x.chain(0, 0, -1), Checks.NO);
        CHECKS.due("chain(9, -1, 0)", x.chain(9, -1, 0), Checks.NO);
        CHECKS.due("chain of a square", x.chain(1, -1, 0), 2);
        CHECKS.due("its first", x.chain(1, 0, 0), -1);
        CHECKS.due("its second", x.chain(1, 1, 0), 1);
        CHECKS.due("chain of a number", x.chain(2, -1, 0), 1);
        CHECKS.due("its first", x.chain(2, 0, 0), 1);
        CHECKS.due("chain beyond", x.chain(3, -1, 0), Checks.NO);
        CHECKS.due("chain beyond", x.chain(3, 0, 0), Checks.NO);
        CHECKS.due("chain of four roots", x.chain(4, -1, 0), 5);
        CHECKS.due("its third", x.chain(4, 2, 2), 5);
        CHECKS.due("its third", x.chain(4, 2, 0), -1);
        CHECKS.due("its fourth", x.chain(4, 3, 1), 1);
        CHECKS.due("its last", x.chain(4, 4, 0), 1);
    }

    private static void changes() {
        RootFence x = Checks.with("x^3-6x^2+11x-6", WIDE);
        CHECKS.due("at 0", x.changes(0, 0, 1), 3);
        CHECKS.due("at 1", x.changes(0, 1, 1), 2);
        CHECKS.due("at 3/2", x.changes(0, 3, 2), 2);
        CHECKS.due("at 6/4", x.changes(0, 6, 4), 2);
        CHECKS.due("at 2", x.changes(0, 1000, 500), 1);
        CHECKS.due("at 1000", x.changes(0, 1000, 1), 0);
        CHECKS.due("at -1000", x.changes(0, -1000, 1), 3);
        CHECKS.due("at 1000/1000", x.changes(0, 1000, 1000), 2);
        CHECKS.due("at 999/1000", x.changes(0, 999, 1000), 3);
        CHECKS.due("v min", x.changes(0, 1, Integer.MIN_VALUE), Checks.BAD);
        CHECKS.due("p -1", x.changes(-1, 1, 1), Checks.BAD);
        CHECKS.due("u 1001", x.changes(0, 1001, 1), Checks.BAD);
        CHECKS.due("u -1001", x.changes(0, -1001, 1), Checks.BAD);
        CHECKS.due("v 0", x.changes(0, 1, 0), Checks.BAD);
        CHECKS.due("v 1001", x.changes(0, 1, 1001), Checks.BAD);
        CHECKS.due("p 2", x.changes(2, 1, 1), Checks.BAD);
        CHECKS.due("beyond", x.changes(1, 1, 1), Checks.FULL);
        CHECKS.due("bad goes ahead", x.changes(1, 1, 0), Checks.BAD);
    }

    private static void roots() {
        RootFence x = Checks.with("x^3-6x^2+11x-6", "x^4+1", "-7", "x^4-4x^3+6x^2-4x+1", "-x^4+10x^2-1", WIDE, "x^4");
        int[] want = {3, 0, 0, 1, 4, Checks.FULL, 1};
        for (int p = 0; p < 7; p++) {
            CHECKS.due("roots(" + p + ")", x.roots(p), want[p]);
        }
        CHECKS.due("roots(7)", x.roots(7), Checks.BAD);
        CHECKS.due("roots(-1)", x.roots(-1), Checks.BAD);
    }

    private static void within() {
        RootFence x = Checks.with("x^3-6x^2+11x-6", WIDE);
        CHECKS.due("(0, 2]", x.within(0, 0, 1, 2, 1), 2);
        CHECKS.due("(1, 3]", x.within(0, 1, 1, 3, 1), 2);
        CHECKS.due("(1, 2)", x.within(0, 1, 1, 199, 100), 0);
        CHECKS.due("(-1000, 1000]", x.within(0, -1000, 1, 1000, 1), 3);
        CHECKS.due("(2/4, 4/4]", x.within(0, 2, 4, 4, 4), 1);
        CHECKS.due("(999/1000, 1000/1000]", x.within(0, 999, 1000, 1000, 1000), 1);
        CHECKS.due("(999/1000, 1000/999]", x.within(0, 999, 1000, 1000, 999), 1);
        CHECKS.due("v -1", x.within(0, 0, -1, 1, 1), Checks.BAD);
        CHECKS.due("v 1001", x.within(0, 0, 1001, 1, 1), Checks.BAD);
        CHECKS.due("u min", x.within(0, Integer.MIN_VALUE, 1, 1, 1), Checks.BAD);
        CHECKS.due("t max", x.within(0, 0, 1, Integer.MAX_VALUE, 1), Checks.BAD);
        CHECKS.due("p -1", x.within(-1, 0, 1, 1, 1), Checks.BAD);
        CHECKS.due("alike points", x.within(0, 1, 2, 2, 4), Checks.BAD);
        CHECKS.due("the first above", x.within(0, 2, 1, 1, 1), Checks.BAD);
        CHECKS.due("u 1001", x.within(0, -1001, 1, 1, 1), Checks.BAD);
        CHECKS.due("v 0", x.within(0, 0, 0, 1, 1), Checks.BAD);
        CHECKS.due("t 1001", x.within(0, 0, 1, 1001, 1), Checks.BAD);
        CHECKS.due("w 0", x.within(0, 0, 1, 1, 0), Checks.BAD);
        CHECKS.due("w 1001", x.within(0, 0, 1, 1, 1001), Checks.BAD);
        CHECKS.due("p 2", x.within(2, 0, 1, 1, 1), Checks.BAD);
        CHECKS.due("beyond", x.within(1, 0, 1, 1, 1), Checks.FULL);
        CHECKS.due("bad goes ahead", x.within(1, 1, 1, 1, 1), Checks.BAD);
    }

    private static void bound() {
        RootFence x = Checks.with("x-1", "x+1", "7", "x-512", "x+511", "x-513", "x+512", WIDE);
        int[] want = {1, 2, 1, 512, 512, Checks.FULL, Checks.FULL, Checks.FULL};
        for (int p = 0; p < 8; p++) {
            CHECKS.due("bound(" + p + ")", x.bound(p), want[p]);
        }
        CHECKS.due("bound(8)", x.bound(8), Checks.BAD);
        CHECKS.due("bound(-1)", x.bound(-1), Checks.BAD);
        CHECKS.due("bound of three", Checks.with("x^3-6x^2+11x-6").bound(0), 4);
    }

    private static void fence(RootFence x, int p, int k, int h, long... want) {
        for (int what = 0; what < 4; what++) {
            long got = x.fence(p, k, h, what);
            CHECKS.due("fence(" + p + ", " + k + ", " + h + ", " + what + ")", got, want[what]);
        }
    }

    private static void fence() {
        RootFence x = Checks.with("x^4-10x^2+1", "x", "x-1", "30x^2-41x+14", "30x^2-31x+8");
        fence(x, 0, 0, 3, -13, 4, -25, 8);
        fence(x, 0, 3, 3, 25, 8, 13, 4);
        fence(x, 1, 0, 0, -1, 1, 0, 1);
        fence(x, 1, 0, 9, -1, 512, 0, 1);
        fence(x, 2, 0, 0, 0, 1, 1, 1);
        fence(x, 2, 0, 9, 511, 512, 1, 1);
        fence(x, 3, 0, 0, 5, 8, 11, 16);
        fence(x, 3, 1, 0, 11, 16, 3, 4);
        fence(x, 4, 0, 0, 0, 1, 1, 2);
        fence(x, 4, 1, 0, 1, 2, 1, 1);
        fence(x, 4, 1, 2, 1, 2, 3, 4);
    }

    private static void fenceWithout() {
        RootFence x = Checks.with("x-3", "x-999", WIDE, "x^2+1", "611x^2-753x+232");
        fence(x, 0, 0, 8, 767, 256, 3, 1);
        fence(x, 0, 0, 9, Checks.NO, Checks.NO, Checks.NO, Checks.NO);
        CHECKS.due("h -1", x.fence(0, 0, -1, 0), Checks.NO);
        CHECKS.due("h 10", x.fence(0, 0, 10, 0), Checks.NO);
        CHECKS.due("what 4", x.fence(0, 0, 0, 4), Checks.NO);
        CHECKS.due("what -1", x.fence(0, 0, 0, -1), Checks.NO);
        CHECKS.due("k 1", x.fence(0, 1, 0, 0), Checks.NO);
        CHECKS.due("k -1", x.fence(0, -1, 0, 0), Checks.NO);
        CHECKS.due("no M", x.fence(1, 0, 0, 0), Checks.NO);
        CHECKS.due("beyond", x.fence(2, 0, 0, 0), Checks.NO);
        CHECKS.due("no roots", x.fence(3, 0, 0, 0), Checks.NO);
        CHECKS.due("p 9", x.fence(9, 0, 0, 0), Checks.NO);
        // 8 by 13 and 29 by 47 have no point of at most 512 parts between them.
        CHECKS.due("two roots", x.roots(4), 2);
        fence(x, 4, 0, 0, Checks.NO, Checks.NO, Checks.NO, Checks.NO);
        fence(x, 4, 1, 9, Checks.NO, Checks.NO, Checks.NO, Checks.NO);
        CHECKS.due("times without a fence", x.times(4, 0), Checks.FULL);
        CHECKS.due("its fractions", x.fraction(4, 1, 0), 29);
    }

    private static void times() {
        RootFence x = Checks.with("x^4-7x^3+18x^2-20x+8", "x^4", "x^3-6x^2+11x-6", "-3", WIDE, "x-999");
        CHECKS.due("times(0, 0)", x.times(0, 0), 1);
        CHECKS.due("times(0, 1)", x.times(0, 1), 3);
        CHECKS.due("times(0, 2)", x.times(0, 2), Checks.BAD);
        CHECKS.due("times(1, 0)", x.times(1, 0), 4);
        CHECKS.due("times(2, 1)", x.times(2, 1), 1);
        CHECKS.due("times(2, -1)", x.times(2, -1), Checks.BAD);
        CHECKS.due("times(3, 0)", x.times(3, 0), Checks.BAD);
        CHECKS.due("full goes ahead of no such root", x.times(4, -1), Checks.FULL);
        CHECKS.due("times(5, 1)", x.times(5, 1), Checks.BAD);
        CHECKS.due("without a fence", x.times(5, 0), Checks.FULL);
        CHECKS.due("times(6, 0)", x.times(6, 0), Checks.BAD);
        RootFence y = Checks.with("x^4-2x^2+1", "x^4-4x^2+4", "x^3-3x-2");
        CHECKS.due("twice -1", y.times(0, 0), 2);
        CHECKS.due("twice 1", y.times(0, 1), 2);
        CHECKS.due("twice the root of 2", y.times(1, 1), 2);
        CHECKS.due("twice -1, once 2", y.times(2, 0), 2);
        CHECKS.due("twice -1, once 2", y.times(2, 1), 1);
    }
}
