/** Promises 15 to 19: shared, sign, signs, which, fraction. */
public final class PairsTest {
    private static final Checks CHECKS = new Checks("PairsTest");
    private static final String WIDE = "-971x^4+977x^3+983x^2-991x+997";

    public static void main(String[] args) {
        shared();
        sign();
        signs();
        which();
        whichNear();
        fraction();
        CHECKS.end();
    }

    private static void shared() {
        RootFence x = Checks.with("x^3-6x^2+11x-6", "x^4-6x^3+13x^2-12x+4", "x^2-2", "5", "x^4-4x^2+4", WIDE);
        CHECKS.due("two alike", x.shared(0, 1), 2);
        CHECKS.due("two alike", x.shared(1, 0), 2);
        CHECKS.due("itself", x.shared(0, 0), 3);
        CHECKS.due("none", x.shared(0, 2), 0);
        CHECKS.due("with a number", x.shared(0, 3), 0);
        CHECKS.due("roots no fractions", x.shared(2, 4), 2);
        CHECKS.due("a square with itself", x.shared(4, 4), 2);
        CHECKS.due("no p", x.shared(6, 0), Checks.BAD);
        CHECKS.due("no q", x.shared(0, 6), Checks.BAD);
        CHECKS.due("p -1", x.shared(-1, 0), Checks.BAD);
        CHECKS.due("q -1", x.shared(0, -1), Checks.BAD);
        CHECKS.due("beyond", x.shared(5, 0), Checks.FULL);
        CHECKS.due("bad goes ahead", x.shared(5, 9), Checks.BAD);
        CHECKS.due("a number and one whose chain is beyond", x.shared(5, 3), 0);
    }

    private static void sign() {
        RootFence x = Checks.with("x^3-6x^2+11x-6", "x^2-2", "x-1", "-7", "x^2+1", WIDE, "2x-3", "x-999");
        CHECKS.due("0 at 1", x.sign(0, 0, 2), 0);
        CHECKS.due("x - 1 at 2", x.sign(0, 1, 2), 1);
        CHECKS.due("x - 1 at minus the root of 2", x.sign(1, 0, 2), -1);
        CHECKS.due("x - 1 at the root of 2", x.sign(1, 1, 2), 1);
        CHECKS.due("2x - 3 at the root of 2", x.sign(1, 1, 6), -1);
        CHECKS.due("x^2 - 2 at 1", x.sign(0, 0, 1), -1);
        CHECKS.due("x^2 - 2 at 2", x.sign(0, 1, 1), 1);
        CHECKS.due("a number", x.sign(0, 2, 3), -1);
        CHECKS.due("itself", x.sign(1, 1, 1), 0);
        CHECKS.due("k 3", x.sign(0, 3, 2), Checks.NO);
        CHECKS.due("k -1", x.sign(0, -1, 2), Checks.NO);
        CHECKS.due("no roots", x.sign(4, 0, 2), Checks.NO);
        CHECKS.due("no p", x.sign(8, 0, 2), Checks.NO);
        CHECKS.due("no q", x.sign(0, 0, 8), Checks.NO);
        CHECKS.due("p -1", x.sign(-1, 0, 2), Checks.NO);
        CHECKS.due("P beyond", x.sign(5, 0, 2), Checks.NO);
        CHECKS.due("Q beyond", x.sign(0, 0, 5), Checks.NO);
        CHECKS.due("no fence", x.sign(7, 0, 2), Checks.NO);
        // 29 by 41 is above the root of 1 by 2, both within (362 by 512, 363 by 512].
        RootFence near = Checks.with("2x^2-1", "41x-29", "12x-17", "31x-22");
        CHECKS.due("too near", near.sign(0, 1, 1), Checks.NO);
        CHECKS.due("far on the other side", near.sign(0, 0, 1), -1);
        CHECKS.due("the number below 17 by 12", near.sign(0, 1, 2), -1);
        CHECKS.due("by the fence by 9 alone", near.sign(0, 1, 3), -1);
    }

    private static void signs() {
        RootFence x = Checks.with("x^3-6x^2+11x-6", "x-2", "x^4-6x^3+13x^2-12x+4", "x^2-2", "-5", WIDE, "x^2+1");
        CHECKS.due("-1, 0, 1", x.signs(0, 1), 0);
        CHECKS.due("a number at three", x.signs(0, 4), -3);
        CHECKS.due("all 0", x.signs(0, 0), 0);
        CHECKS.due("-1, 0", x.signs(2, 1), -1);
        CHECKS.due("-1, 1, 1", x.signs(0, 3), 1);
        CHECKS.due("none", x.signs(6, 0), 0);
        CHECKS.due("at a number", x.signs(4, 0), 0);
        CHECKS.due("at -, + root of 2", x.signs(3, 1), -2);
        CHECKS.due("above everywhere", x.signs(3, 6), 2);
        CHECKS.due("P beyond", x.signs(5, 0), Checks.NO);
        CHECKS.due("no p", x.signs(7, 0), Checks.NO);
        CHECKS.due("no q", x.signs(0, 7), Checks.NO);
        CHECKS.due("p -1", x.signs(-1, 0), Checks.NO);
        CHECKS.due("q -1", x.signs(0, -1), Checks.NO);
    }

    private static void which() {
        RootFence x = Checks.with("x^3-6x^2+11x-6", "x^2-2", "x^4-6x^3+13x^2-12x+4", "x^2+1", WIDE, "x-999");
        CHECKS.due("1 and the root of 2", x.which(0, 0, 1, 1), -1);
        CHECKS.due("the root of 2 and 1", x.which(1, 1, 0, 0), 1);
        CHECKS.due("2 and the root of 2", x.which(0, 1, 1, 1), 1);
        CHECKS.due("1 and 1", x.which(0, 0, 2, 0), 0);
        CHECKS.due("2 and 2", x.which(0, 1, 2, 1), 0);
        CHECKS.due("1 and 2", x.which(0, 0, 2, 1), -1);
        CHECKS.due("3 and 2", x.which(0, 2, 2, 1), 1);
        CHECKS.due("itself", x.which(1, 1, 1, 1), 0);
        CHECKS.due("itself, another root", x.which(1, 1, 1, 0), 1);
        CHECKS.due("i 3", x.which(0, 3, 1, 0), Checks.NO);
        CHECKS.due("i -1", x.which(0, -1, 1, 0), Checks.NO);
        CHECKS.due("j 2", x.which(0, 0, 1, 2), Checks.NO);
        CHECKS.due("j -1", x.which(0, 0, 1, -1), Checks.NO);
        CHECKS.due("no roots", x.which(0, 0, 3, 0), Checks.NO);
        CHECKS.due("beyond", x.which(0, 0, 4, 0), Checks.NO);
        CHECKS.due("beyond", x.which(4, 0, 0, 0), Checks.NO);
        CHECKS.due("no fence", x.which(0, 0, 5, 0), Checks.NO);
        CHECKS.due("no p", x.which(6, 0, 0, 0), Checks.NO);
        CHECKS.due("no q", x.which(0, 0, 6, 0), Checks.NO);
        CHECKS.due("q -1", x.which(0, 0, -1, 0), Checks.NO);
    }

    private static void whichNear() {
        RootFence x = Checks.with("2x^2-1", "41x-29", "12x-17", "10x-7", "x", "998x^2-999x", "31x-22", "999x-1");
        CHECKS.due("too near", x.which(0, 1, 1, 0), Checks.NO);
        CHECKS.due("near", x.which(0, 1, 3, 0), 1);
        CHECKS.due("near", x.which(3, 0, 0, 1), -1);
        CHECKS.due("0 and more than 1", x.which(4, 0, 5, 1), -1);
        CHECKS.due("by the fences by 9 alone", x.which(0, 1, 6, 0), -1);
        CHECKS.due("by the fences by 9 alone", x.which(6, 0, 0, 1), 1);
        CHECKS.due("fences that touch", x.which(4, 0, 7, 0), -1);
        CHECKS.due("fences that touch", x.which(7, 0, 4, 0), 1);
        CHECKS.due("0 and 0", x.which(4, 0, 5, 0), 0);
    }

    private static void fractions(RootFence x, int p, long... want) {
        for (int what : new int[] {0, 1, 2, -1, 77, Integer.MIN_VALUE, Integer.MAX_VALUE}) {
            CHECKS.due("fractions of " + p + ", what " + what, x.fraction(p, -1, what), want.length / 2);
        }
        for (int k = 0; k < want.length / 2; k++) {
            CHECKS.due("u of " + p + ", " + k, x.fraction(p, k, 0), want[2 * k]);
            CHECKS.due("v of " + p + ", " + k, x.fraction(p, k, 1), want[2 * k + 1]);
        }
        CHECKS.due("behind the last", x.fraction(p, want.length / 2, 0), Checks.NO);
    }

    private static void fraction() {
        RootFence x = Checks.with("x^3-6x^2+11x-6", "x^4", "6x^3+5x^2-2x-1", "x^2-2", "-8", "999x-998",
            "36x^4-13x^2+1", "997x^4-991x^3-6x^2");
        fractions(x, 0, 1, 1, 2, 1, 3, 1);
        fractions(x, 1, 0, 1);
        fractions(x, 2, -1, 1, -1, 3, 1, 2);
        fractions(x, 3);
        fractions(x, 4);
        fractions(x, 5, 998, 999);
        fractions(x, 6, -1, 2, -1, 3, 1, 3, 1, 2);
        fractions(x, 7, -6, 997, 0, 1, 1, 1);
        CHECKS.due("what 2", x.fraction(0, 0, 2), Checks.NO);
        CHECKS.due("what -1", x.fraction(0, 0, -1), Checks.NO);
        CHECKS.due("k -2", x.fraction(0, -2, 0), Checks.NO);
        CHECKS.due("k 3", x.fraction(0, 3, 1), Checks.NO);
        CHECKS.due("no p", x.fraction(8, -1, 0), Checks.NO);
        CHECKS.due("p -1", x.fraction(-1, -1, 0), Checks.NO);
    }
}
