/** 'Terms', 1 POLYNOMIALS, up to CHAIN: each sentence that names an edge has a test of its own. */
public final class TermsPolynomialsTest {
    private static final Checks CHECKS = new Checks("TermsPolynomialsTest");
    /** Their remainders come to -1000000, 1000000, -1000001 and 1000001 on the way, and no further. */
    private static final String DOWN_TO = "91x^3-83x^2-32x+25", UP_TO = "37x^3+11x^2+93x-93";
    private static final String DOWN_BEYOND = "42x^3+83x^2+41x-45", UP_BEYOND = "45x^3+8x^2+67x-30";

    public static void main(String[] args) {
        eightAtMost();
        asTheyCome();
        numbersTo999();
        notAllZero();
        degree();
        cleanedDivides();
        cleanedTo1000000();
        cleanedAfterDividing();
        fullDoesNothing();
        fullInTwo();
        fullInTheChainAlone();
        derived();
        remainderSigns();
        remainderGoesOn();
        remainderCleanedEachStep();
        common();
        free();
        chain();
        CHECKS.end();
    }

    private static void eightAtMost() {
        CHECKS.sentence("8 at most");
        RootFence x = new RootFence();
        for (int i = 0; i < 8; i++) {
            CHECKS.due("poly number " + i, x.poly(i + 1, 0, 0, 0, 0), i);
        }
        CHECKS.refused(x, "poly, the ninth", () -> x.poly(9, 0, 0, 0, 0), Checks.FULL);
        CHECKS.refused(x, "make, the ninth", () -> x.make(0, 0, 1), Checks.FULL);
        CHECKS.refused(x, "reads, the ninth", () -> Checks.read(x, "=9"), -2000);
        CHECKS.due("count(0)", x.count(0), 8);
        RootFence made = Checks.with("x", "1", "1", "1", "1", "1", "1");
        CHECKS.due("make, the eighth", made.make(5, 0, 0), 7);
        CHECKS.due("reads, the eighth", Checks.read(Checks.with("1", "1", "1", "1", "1", "1", "1"), "=2"), 1);
    }

    private static void asTheyCome() {
        CHECKS.sentence("POLYNOMIALS 0, 1, .. as they come");
        RootFence x = new RootFence();
        CHECKS.due("poly", x.poly(5, 0, 0, 0, 0), 0);
        CHECKS.due("reads", Checks.read(x, "=x"), 1);
        CHECKS.due("make", x.make(0, 0, 1), 2);
        CHECKS.due("state", Checks.state(x), "5,0,0,0,0, 0,1,0,0,0, 5,1,0,0,0, 0/0");
        x.drop();
        CHECKS.due("poly where one went", x.poly(0, 0, 0, 0, -1), 2);
        CHECKS.due("state", Checks.state(x), "5,0,0,0,0, 0,1,0,0,0, 0,0,0,0,-1, 0/0");
    }

    private static int onePower(RootFence x, int power, int number) {
        int[] c = {power == 0 ? number : 1, power == 1 ? number : 1, power == 2 ? number : 1,
            power == 3 ? number : 1, power == 4 ? number : 1};
        return x.poly(c[0], c[1], c[2], c[3], c[4]);
    }

    private static void numbersTo999() {
        CHECKS.sentence("NUMBERS (-999 .. 999)");
        for (int power = 0; power < 5; power++) {
            int at = power;
            RootFence x = new RootFence();
            CHECKS.due("999, power " + power, onePower(x, power, 999), 0);
            CHECKS.due("-999, power " + power, onePower(x, power, -999), 1);
            CHECKS.due("it stands", x.number(0, power), 999);
            CHECKS.due("it stands", x.number(1, power), -999);
            for (int number : new int[] {1000, -1000, Integer.MAX_VALUE, Integer.MIN_VALUE}) {
                CHECKS.refused(x, number + ", power " + power, () -> onePower(x, at, number), Checks.BAD);
            }
        }
    }

    private static void notAllZero() {
        CHECKS.sentence("not all 0");
        RootFence x = new RootFence();
        CHECKS.refused(x, "poly of 0s", () -> x.poly(0, 0, 0, 0, 0), Checks.NOT);
        CHECKS.due("power 0 alone", x.poly(1, 0, 0, 0, 0), 0);
        CHECKS.due("power 1 alone", x.poly(0, -1, 0, 0, 0), 1);
        CHECKS.due("power 2 alone", x.poly(0, 0, 1, 0, 0), 2);
        CHECKS.due("power 3 alone", x.poly(0, 0, 0, -1, 0), 3);
        CHECKS.due("power 4 alone", x.poly(0, 0, 0, 0, 1), 4);
    }

    private static void degree() {
        CHECKS.sentence("DEGREE: the greatest power whose NUMBER isn't 0");
        RootFence x = Checks.with("-7", "-x", "x^2", "-x^3+x", "x^4-1");
        for (int p = 0; p < 5; p++) {
            CHECKS.due("of(" + p + ", 0)", x.of(p, 0), p);
        }
    }

    /** The remainder by one of a greater degree is the polynomial itself, cleaned. */
    private static void cleaned(String poly, String want) {
        CHECKS.due("rest of " + poly, Checks.made(10, 1, poly, "x^4"), want);
    }

    private static void cleanedDivides() {
        CHECKS.sentence("CLEANED: divided by the greatest number that divides all of them");
        cleaned("6x+9", "2x+3");
        cleaned("-6x-9", "-2x-3");
        cleaned("999", "1");
        cleaned("-6", "-1");
        cleaned("1", "1");
        cleaned("12x^3-18", "2x^3-3");
        cleaned("-999x^2", "-x^2");
        cleaned("998x^3+499", "2x^3+1");
        cleaned("6x^3+10x^2+15x", "6x^3+10x^2+15x");
        cleaned("999x^3-998x^2", "999x^3-998x^2");
    }

    private static void cleanedTo1000000() {
        CHECKS.sentence("one is then above 1000000 without its sign: FULL");
        CHECKS.due("1000000 on the way", Checks.made(10, 1, "7x^2+997x+1", "999x-571"), "1");
        CHECKS.due("-1000000 on the way", Checks.made(10, 1, "-7x^2-997x-1", "999x-571"), "-1");
        CHECKS.due("1000001 on the way", Checks.made(10, 1, "4x^2+999x+1", "999x-500"), "answer -3");
        CHECKS.due("-1000001 on the way", Checks.made(10, 1, "-4x^2-999x-1", "999x-500"), "answer -3");
        RootFence x = Checks.with(DOWN_TO, UP_TO, DOWN_BEYOND, UP_BEYOND);
        CHECKS.due("roots, -1000000 on the way", x.roots(0), 3);
        CHECKS.due("roots, 1000000 on the way", x.roots(1), 1);
        CHECKS.due("roots, -1000001 on the way", x.roots(2), Checks.FULL);
        CHECKS.due("roots, 1000001 on the way", x.roots(3), Checks.FULL);
        CHECKS.due("chain, -1000000 on the way", x.chain(0, -1, 0), 4);
        CHECKS.due("chain, 1000000 on the way", x.chain(1, -1, 0), 4);
        CHECKS.due("chain, -1000001 on the way", x.chain(2, -1, 0), Checks.NO);
        CHECKS.due("chain, 1000001 on the way", x.chain(3, -1, 0), Checks.NO);
    }

    private static void cleanedAfterDividing() {
        CHECKS.sentence("if one is THEN above 1000000: looked at when divided");
        CHECKS.due("6327136 till it is divided", Checks.made(10, 1, "352x^3+608x^2-346x+409", "32x^2-608x+869"), "97x-149");
        CHECKS.due("320594970 till it is divided", Checks.made(10, 1, "-264x^3+463x^2-85x-764", "747x^2+747x+986"), "-174x-647");
    }

    private static void fullDoesNothing() {
        CHECKS.sentence("a call that comes to what is FULL answers so, and does nothing");
        for (String poly : new String[] {UP_BEYOND, DOWN_BEYOND, "-971x^4+977x^3+983x^2-991x+997"}) {
            RootFence x = Checks.with(poly, "x-1");
            CHECKS.refused(x, "chain", () -> x.chain(0, 0, 0), Checks.NO);
            CHECKS.refused(x, "changes", () -> x.changes(0, 0, 1), Checks.FULL);
            CHECKS.refused(x, "roots", () -> x.roots(0), Checks.FULL);
            CHECKS.refused(x, "within", () -> x.within(0, 0, 1, 1, 1), Checks.FULL);
            CHECKS.refused(x, "bound", () -> x.bound(0), Checks.FULL);
            CHECKS.refused(x, "fence", () -> x.fence(0, 0, 0, 0), Checks.NO);
            CHECKS.refused(x, "times", () -> x.times(0, 0), Checks.FULL);
            RootFence y = Checks.with(poly, "x-1");
            CHECKS.refused(y, "sign of x - 1", () -> y.sign(0, 0, 1), Checks.NO);
            CHECKS.refused(y, "which, the first", () -> y.which(0, 0, 1, 0), Checks.NO);
            CHECKS.refused(y, "which, the second", () -> y.which(1, 0, 0, 0), Checks.NO);
            CHECKS.refused(y, "free", () -> y.make(9, 0, 0), Checks.FULL);
            CHECKS.refused(y, "part", () -> y.make(11, 0, 1), Checks.FULL);
            CHECKS.refused(y, "reads", () -> Checks.read(y, "=x;free 0"), -2003);
            y.list(0, 4);
            CHECKS.refused(y, "judge", () -> y.judge(0, 0, 0), Checks.FULL);
        }
    }

    private static void fullInTwo() {
        CHECKS.sentence("a call that comes to what is FULL: COMMON of two, each of which has its CHAIN");
        RootFence x = Checks.with("4x^2+999x+1", "999x-500", "7x^2+997x+1", "999x-571");
        for (int p = 0; p < 4; p++) {
            CHECKS.due("roots(" + p + ")", x.roots(p), p % 2 == 0 ? 2 : 1);
        }
        CHECKS.refused(x, "shared", () -> x.shared(0, 1), Checks.FULL);
        CHECKS.refused(x, "common", () -> x.make(3, 0, 1), Checks.FULL);
        CHECKS.refused(x, "sign", () -> x.sign(0, 1, 1), Checks.NO);
        CHECKS.refused(x, "which", () -> x.which(0, 1, 1, 0), Checks.NO);
        CHECKS.due("shared at 1000000", x.shared(2, 3), 0);
        CHECKS.due("sign at 1000000", x.sign(2, 1, 3), -1);
        CHECKS.due("which at 1000000", x.which(2, 1, 3, 0), -1);
        CHECKS.due("common at 1000000", x.make(3, 2, 3), 4);
        RootFence y = Checks.with("625x^2+x-1", "800x+1", "500x^2+999x", "999x+2");
        CHECKS.due("signs, DERIVED times Q up to 1000000", y.signs(0, 1), 0);
        CHECKS.refused(y, "signs, DERIVED times Q up to 1000001", () -> y.signs(2, 3), Checks.NO);
    }

    private static void fullInTheChainAlone() {
        CHECKS.sentence("a call that comes to what is FULL: the CHAIN of a P that has its FREE");
        for (String poly : new String[] {"119x^4+76x^3+75x^2", "-150x^4-104x^3+287x^2+286x+45", "-204x^4-568x^3-104x^2"}) {
            RootFence x = Checks.with(poly, "x");
            CHECKS.due("free of " + poly, x.make(9, 0, 0), 2);
            CHECKS.due("roots of " + poly, x.roots(0), Checks.FULL);
            CHECKS.due("chain of " + poly, x.chain(0, -1, 0), Checks.NO);
            CHECKS.due("changes of " + poly, x.changes(0, 0, 1), Checks.FULL);
            CHECKS.due("within of " + poly, x.within(0, -1, 1, 1, 1), Checks.FULL);
            CHECKS.due("bound of " + poly, x.bound(0), Checks.FULL);
            CHECKS.due("fence of " + poly, Checks.fenceText(x, 0, 0, 0), "NO");
            CHECKS.due("times of " + poly, x.times(0, 0), Checks.FULL);
            CHECKS.due("shared with itself, " + poly, x.shared(0, 0), Checks.FULL);
            CHECKS.due("sign at " + poly, x.sign(0, 0, 1), Checks.NO);
            CHECKS.due("which of " + poly, x.which(0, 0, 1, 0), Checks.NO);
            CHECKS.due("which of x and " + poly, x.which(1, 0, 0, 0), Checks.NO);
        }
        CHECKS.due("sign of it", Checks.with("x-1", "119x^4+76x^3+75x^2").sign(0, 0, 1), Checks.NO);
        CHECKS.due("sign of it where it is 0", Checks.with("x", "119x^4+76x^3+75x^2").sign(0, 0, 1), 0);
        CHECKS.sentence("a call that comes to what is FULL: the SUM's CHAIN of two that have theirs");
        RootFence y = Checks.with("17x^3+60x^2-20x+2", "22x^2+14x-46", "24x^3+10x^2+43x-23", "-59x^2-6x-25");
        int[] roots = {1, 2, 1, 0};
        for (int p = 0; p < 4; p++) {
            CHECKS.due("roots(" + p + ")", y.roots(p), roots[p]);
        }
        CHECKS.due("signs(0, 1)", y.signs(0, 1), Checks.NO);
        CHECKS.due("signs(2, 3)", y.signs(2, 3), Checks.NO);
    }

    private static void derived() {
        CHECKS.sentence("DERIVED: each NUMBER times its power, one power less");
        CHECKS.due("derived", Checks.made(4, 0, "x^4-x^3+x^2-x+1"), "4x^3-3x^2+2x-1");
        CHECKS.due("derived", Checks.made(4, 0, "-9x"), "-9");
        CHECKS.due("derived, not CLEANED", Checks.made(4, 0, "2x^4-4x^2+7"), "8x^3-8x");
    }

    private static void rest(String p, String q, String want) {
        CHECKS.due("rest of " + p + " by " + q, Checks.made(10, 1, p, q), want);
    }

    private static void remainderSigns() {
        CHECKS.sentence("P times Q's HEAD without sign, less Q times P's HEAD (its minus, if Q's HEAD is below 0)");
        rest("x^2+1", "2x-1", "1");
        rest("x^2+1", "-2x+1", "1");
        rest("-x^2-1", "2x-1", "-1");
        rest("-x^2-1", "-2x+1", "-1");
        rest("x^3+x+1", "2x^2-1", "3x+2");
        rest("x^3+x+1", "-2x^2+1", "3x+2");
        rest("-x^3-x-1", "2x^2-1", "-3x-2");
        rest("-x^3-x-1", "-2x^2+1", "-3x-2");
        rest("3x^2+x", "2x^2+1", "2x-3");
        rest("3x^2+x", "-2x^2-1", "2x-3");
    }

    private static void remainderGoesOn() {
        CHECKS.sentence("as long as it is not all 0 and its DEGREE not below Q's");
        rest("4x^2+2", "x^3", "2x^2+1");
        rest("4x^2+2", "-3x^2", "1");
        rest("4x^2-2x", "6x", "answer -2");
        rest("x^4+x+1", "x^3", "x+1");
        rest("x^4+2x^3+3x^2+4x+5", "x", "1");
        rest("x^4+2x^3+3x^2+4x+5", "x-1", "1");
        rest("x^4-2x^3", "x-3", "1");
        rest("x^4-3x^3-3", "x-3", "-1");
        rest("2x^4+2x^2", "x^2+1", "answer -2");
        rest("7x^2+x+1", "5", "answer -2");
        rest("7", "-3", "answer -2");
    }

    private static void remainderCleanedEachStep() {
        CHECKS.sentence("REMAINDER: CLEANED as long as it goes on, not at the end alone");
        CHECKS.due("1000001x + 999 by 999x - 500", Checks.made(10, 1, "4x^2+999x+1", "999x-500"), "answer -3");
        CHECKS.due("x^4 by 999x - 998", Checks.made(10, 1, "x^4", "999x-998"), "1");
        CHECKS.due("x^4 + 1 by 999x - 998", Checks.made(10, 1, "x^4+1", "999x-998"), "answer -3");
    }

    private static void common(String p, String q, String want) {
        CHECKS.due("common of " + p + " and " + q, Checks.made(3, 1, p, q), want);
    }

    private static void common() {
        CHECKS.sentence("COMMON: P, Q CLEANED");
        common("6x-6", "4x-4", "x-1");
        common("6", "4", "1");
        common("-6", "-6", "1");
        common("5x", "7", "1");
        CHECKS.sentence("COMMON: as long as Q is not all 0");
        common("x^2-1", "x^3-1", "x-1");
        common("x^3-1", "x^2-1", "x-1");
        common("x^4-1", "x^2+1", "x^2+1");
        common("x^2+1", "x^4-1", "x^2+1");
        common("x^3-6x^2+11x-6", "x^3-7x^2+14x-8", "x^2-3x+2");
        CHECKS.sentence("COMMON: all signs turned if its HEAD is below 0");
        common("-x+1", "-x+1", "x-1");
        common("-2x^2+4", "-x^2+2", "x^2-2");
        common("x+1", "-x-1", "x+1");
        common("x+1", "x+1", "x+1");
    }

    private static void free(String p, String want) {
        CHECKS.due("free of " + p, Checks.made(9, 0, p), want);
    }

    private static void free() {
        CHECKS.sentence("FREE: DERIVED all 0: by 1");
        free("-7", "1");
        free("1", "1");
        free("999", "1");
        CHECKS.sentence("FREE: P CLEANED, divided by COMMON of it and DERIVED of it, CLEANED");
        free("6x-9", "2x-3");
        free("x^4", "x");
        free("4x^4-16x^2+16", "x^2-2");
        free("x^4-x^3", "x^2-x");
        free("2x^3-2x", "x^3-x");
        free("36x^4-12x^3-11x^2+2x+1", "6x^2-x-1");
        CHECKS.sentence("FREE: its signs turned if its HEAD is below 0");
        free("-x", "x");
        free("-2x^2+4x-2", "x-1");
        free("-3x^2+3", "x^2-1");
        free("-x^4-2x^2-1", "x^2+1");
    }

    private static void chain() {
        CHECKS.sentence("CHAIN: FREE of P; DERIVED of that, CLEANED; the minus of the REMAINDER");
        RootFence x = Checks.with("-2x^2+2", "x^3-6x^2+11x-6", "x^2+1", "3x^2-3x", "x^4-10x^2+1");
        CHECKS.due("chain 0", Checks.chainText(x, 0), "-1 0 1 0 0;0 1 0 0 0;1 0 0 0 0;");
        CHECKS.due("chain 1", Checks.chainText(x, 1), "-6 11 -6 1 0;11 -12 3 0 0;-2 1 0 0 0;1 0 0 0 0;");
        CHECKS.due("chain 2", Checks.chainText(x, 2), "1 0 1 0 0;0 1 0 0 0;-1 0 0 0 0;");
        CHECKS.due("chain 3", Checks.chainText(x, 3), "0 -1 1 0 0;-1 2 0 0 0;1 0 0 0 0;");
        CHECKS.due("chain 4", Checks.chainText(x, 4), "1 0 -10 0 1;0 -5 0 1 0;-1 0 5 0 0;0 1 0 0 0;1 0 0 0 0;");
        CHECKS.sentence("CHAIN: until that is all 0 (which is not of it)");
        RootFence y = Checks.with("x^3-1", "x^4", "-8x", "x^4+1");
        CHECKS.due("chain of x^3 - 1", Checks.chainText(y, 0), "-1 0 0 1 0;0 0 1 0 0;1 0 0 0 0;");
        CHECKS.due("chain of x^4", Checks.chainText(y, 1), "0 1 0 0 0;1 0 0 0 0;");
        CHECKS.due("chain of -8x", Checks.chainText(y, 2), "0 1 0 0 0;1 0 0 0 0;");
        CHECKS.due("chain of x^4 + 1", Checks.chainText(y, 3), "1 0 0 0 1;0 0 0 1 0;-1 0 0 0 0;");
        CHECKS.sentence("a FREE of DEGREE 0 is all of its CHAIN");
        RootFence z = Checks.with("-999", "1");
        CHECKS.due("chain of -999", Checks.chainText(z, 0), "1 0 0 0 0;");
        CHECKS.due("chain of 1", Checks.chainText(z, 1), "1 0 0 0 0;");
        CHECKS.due("no second member", z.chain(0, 1, 0), Checks.NO);
        CHECKS.due("roots", z.roots(0), 0);
        CHECKS.due("bound", z.bound(0), 1);
        CHECKS.due("changes", z.changes(0, 0, 1), 0);
    }
}
