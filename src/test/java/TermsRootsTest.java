/** 'Terms', 1 POLYNOMIALS, from POINT on: each sentence that names an edge has a test of its own. */
public final class TermsRootsTest {
    private static final Checks CHECKS = new Checks("TermsRootsTest");

    public static void main(String[] args) {
        pointLowestTerms();
        pointFull();
        changesLeaveOutZeros();
        roots();
        within();
        bound();
        fenceHalves();
        fenceJustOne();
        fenceBesideOthers();
        fenceNone();
        times();
        timesWithinTheFence();
        part();
        partHead();
        signZero();
        signAtTheEnd();
        signByNine();
        sumOfSigns();
        whichAlike();
        whichNothingInCommon();
        whichByNine();
        fractions();
        CHECKS.end();
    }

    private static void fences(String poly, int k, int from, String... want) {
        RootFence x = Checks.with(poly);
        for (int i = 0; i < want.length; i++) {
            CHECKS.due("fence of " + poly + ", root " + k + ", by " + (from + i), Checks.fenceText(x, 0, k, from + i), want[i]);
        }
    }

    private static void pointLowestTerms() {
        CHECKS.sentence("A POINT: u by v, v above 0, lowest terms");
        fences("3x-1", 0, 0, "0/1 1/1", "0/1 1/2", "1/4 1/2", "1/4 3/8", "5/16 3/8", "5/16 11/32", "21/64 11/32",
            "21/64 43/128", "85/256 43/128", "85/256 171/512");
        fences("x", 0, 0, "-1/1 0/1", "-1/2 0/1", "-1/4 0/1", "-1/8 0/1", "-1/16 0/1", "-1/32 0/1", "-1/64 0/1",
            "-1/128 0/1", "-1/256 0/1", "-1/512 0/1");
    }

    private static void pointFull() {
        CHECKS.sentence("A POINT: FULL, if u without sign is above 1000");
        fences("512x-999", 0, 8, "499/256 125/64", "499/256 999/512");
        fences("64x-125", 0, 8, "499/256 125/64", "999/512 125/64");
        fences("500x-977", 0, 8, "125/64 501/256", "NO");
        fences("512x+999", 0, 8, "-125/64 -499/256", "-125/64 -999/512");
        fences("64x+125", 0, 8, "-501/256 -125/64", "NO");
        fences("500x+977", 0, 8, "-501/256 -125/64", "NO");
        fences("8x-125", 0, 5, "499/32 125/8", "999/64 125/8", "NO");
        fences("x-3", 0, 7, "383/128 3/1", "767/256 3/1", "NO");
        fences("x-512", 0, 0, "511/1 512/1", "NO");
        fences("x-500", 0, 1, "999/2 500/1", "NO");
        CHECKS.sentence("A POINT: FULL, if v is above 1000");
        // 8 by 13 and 29 by 47 have no point of at most 512 parts between them.
        fences("611x^2-753x+232", 0, 0, "NO", "NO");
        fences("611x^2-753x+232", 1, 0, "NO", "NO");
        fences("30x^2-31x+8", 0, 9, "255/512 1/2");
        fences("30x^2-31x+8", 1, 9, "273/512 137/256");
        CHECKS.due("times without a fence", Checks.with("611x^2-753x+232").times(0, 0), Checks.FULL);
        CHECKS.due("bound without a fence", Checks.with("611x^2-753x+232").bound(0), 1);
    }

    private static void changesLeaveOutZeros() {
        CHECKS.sentence("CHANGES: those left out that are 0 there");
        RootFence x = Checks.with("x^3-6x^2+11x-6", "x^2-1", "x^2+1", "x^3-x");
        CHECKS.due("the first is 0, at 1", x.changes(0, 1, 1), 2);
        CHECKS.due("two are 0, at 2", x.changes(0, 2, 1), 1);
        CHECKS.due("the first is 0, at 3", x.changes(0, 3, 1), 0);
        CHECKS.due("-, 0, +", x.changes(1, 0, 1), 1);
        CHECKS.due("the first is 0, at -1", x.changes(1, -1, 1), 1);
        CHECKS.due("+, 0, -", x.changes(2, 0, 1), 1);
        CHECKS.due("0, -, 0, +", x.changes(3, 0, 1), 1);
    }

    private static void roots() {
        CHECKS.sentence("ROOTS: unlike real ones");
        RootFence x = Checks.with("x^4-4x^3+6x^2-4x+1", "x^4-2x^2+1", "x^4", "x^2+1", "x^3+x", "-x^4+10x^2-1", "7", "-x");
        int[] want = {1, 2, 1, 0, 1, 4, 0, 1};
        for (int p = 0; p < 8; p++) {
            CHECKS.due("roots(" + p + ")", x.roots(p), want[p]);
        }
        CHECKS.sentence("ROOTS: numbered from the least on");
        RootFence y = Checks.with("-x^3+6x^2-11x+6");
        CHECKS.due("ends", y.fence(0, 0, 0, 2) + " " + y.fence(0, 1, 0, 2) + " " + y.fence(0, 2, 0, 2), "1 2 3");
    }

    private static void within() {
        CHECKS.sentence("WITHIN (a, b]: above a and not above b");
        RootFence x = Checks.with("x^3-6x^2+11x-6", "x^4-2x^2+1");
        CHECKS.due("(1, 2]", x.within(0, 1, 1, 2, 1), 1);
        CHECKS.due("(1, 3]", x.within(0, 1, 1, 3, 1), 2);
        CHECKS.due("(999/1000, 1]", x.within(0, 999, 1000, 1, 1), 1);
        CHECKS.due("(1, 1000/999]", x.within(0, 1, 1, 1000, 999), 0);
        CHECKS.due("(0, 999/1000]", x.within(0, 0, 1, 999, 1000), 0);
        CHECKS.due("(3, 1000]", x.within(0, 3, 1, 1000, 1), 0);
        CHECKS.due("(-1000, 1]", x.within(0, -1000, 1, 1, 1), 1);
        CHECKS.due("(-1, 1] of twice each", x.within(1, -1, 1, 1, 1), 1);
        CHECKS.due("(-2, 1] of twice each", x.within(1, -2, 1, 1, 1), 2);
    }

    private static void bound(String poly, int want) {
        CHECKS.due("bound of " + poly, Checks.with(poly).bound(0), want);
    }

    private static void bound() {
        CHECKS.sentence("M being the least of 1, 2, 4, .. 512 with CHANGES at M as ABOVE ALL");
        for (int m = 1; m <= 512; m *= 2) {
            bound("x-" + m, m);
            bound("x-" + (m + 1), m == 512 ? Checks.FULL : 2 * m);
        }
        CHECKS.sentence("M with CHANGES at -M as BELOW ALL");
        for (int m = 1; m <= 512; m *= 2) {
            bound("x+" + m, m == 512 ? Checks.FULL : 2 * m);
            if (m > 1) {
                bound("x+" + (m - 1), m);
            }
        }
        bound("x", 1);
        bound("x^2-1", 2);
        bound("x^2-x", 1);
        bound("x^2+100", 1);
        bound("x^2-100x-800", 128);
        CHECKS.sentence("M: none: FULL");
        bound("x-999", Checks.FULL);
        bound("x+999", Checks.FULL);
        bound("x^2-999x", Checks.FULL);
        fences("x-999", 0, 0, "NO");
        fences("x^2-999x", 0, 0, "NO");
        fences("x+512", 0, 0, "NO");
    }

    private static void fenceHalves() {
        CHECKS.sentence("as long as it is wider than 1 by 2 to the h");
        fences("x-1", 0, 0, "0/1 1/1", "1/2 1/1", "3/4 1/1", "7/8 1/1");
        fences("x+1", 0, 0, "-2/1 -1/1", "-3/2 -1/1", "-5/4 -1/1", "-9/8 -1/1");
        fences("x-100", 0, 0, "99/1 100/1", "199/2 100/1");
        CHECKS.sentence("of the two halves (the middle being of the lower one) that which has the ROOT");
        fences("2x-1", 0, 0, "0/1 1/1", "0/1 1/2", "1/4 1/2");
        fences("4x-1", 0, 0, "0/1 1/1", "0/1 1/2", "0/1 1/4", "1/8 1/4");
        fences("4x+1", 0, 0, "-1/1 0/1", "-1/2 0/1", "-1/2 -1/4", "-3/8 -1/4");
        fences("x^3-x", 0, 0, "-2/1 -1/1");
        fences("x^3-x", 1, 0, "-1/1 0/1");
        fences("x^3-x", 2, 0, "0/1 1/1");
    }

    private static void fenceJustOne() {
        CHECKS.sentence("FENCE: as long as more than one ROOT is within");
        fences("30x^2-41x+14", 0, 0, "5/8 11/16", "5/8 11/16", "5/8 11/16", "5/8 11/16", "5/8 11/16", "21/32 11/16");
        fences("30x^2-41x+14", 1, 0, "11/16 3/4", "11/16 3/4", "11/16 3/4", "11/16 3/4", "11/16 3/4", "11/16 23/32");
        fences("8x^2-6x+1", 0, 0, "0/1 1/4", "0/1 1/4", "0/1 1/4", "1/8 1/4");
        fences("8x^2-6x+1", 1, 0, "1/4 1/2", "1/4 1/2", "1/4 1/2", "3/8 1/2");
    }

    private static void fenceBesideOthers() {
        CHECKS.sentence("FENCE: CHANGES that are there ABOVE ALL, too, are not ROOTS within");
        fences("x^3+x-1", 0, 0, "0/1 1/1", "1/2 1/1", "1/2 3/4", "5/8 3/4");
        fences("x^4-1", 0, 0, "-2/1 -1/1", "-3/2 -1/1");
        fences("x^4-1", 1, 0, "0/1 1/1", "1/2 1/1");
        CHECKS.sentence("FENCE: first (-M, M], whatever was asked ahead");
        RootFence x = Checks.with("3x-1", "x-5", "x^3-x");
        for (int n = 0; n < 3; n++) {
            CHECKS.due("3x - 1 by 9", Checks.fenceText(x, 0, 0, 9), "85/256 171/512");
            CHECKS.due("x - 5 by 0", Checks.fenceText(x, 1, 0, 0), "4/1 5/1");
            CHECKS.due("x^3 - x by 3", Checks.fenceText(x, 2, 2, 3), "7/8 1/1");
            CHECKS.due("x - 5 by 7", Checks.fenceText(x, 1, 0, 7), "639/128 5/1");
            CHECKS.due("x^3 - x by 0", Checks.fenceText(x, 2, 0, 0), "-2/1 -1/1");
            CHECKS.due("x - 5 by 8: none", Checks.fenceText(x, 1, 0, 8), "NO");
        }
    }

    private static void fenceNone() {
        CHECKS.sentence("FENCE by h (0 .. 9) of the k-th ROOT");
        RootFence x = Checks.with("x^2-1", "x^2+1");
        CHECKS.due("h -1", Checks.fenceText(x, 0, 0, -1), "NO");
        CHECKS.due("h 9", Checks.fenceText(x, 0, 1, 9), "511/512 1/1");
        for (int h : new int[] {10, 11, 31, 32, 33, 63, 64, 65, 128, Integer.MAX_VALUE, -64, -32, Integer.MIN_VALUE}) {
            CHECKS.due("h " + h, Checks.fenceText(x, 0, 1, h), "NO");
        }
        CHECKS.due("k -1", Checks.fenceText(x, 0, -1, 0), "NO");
        CHECKS.due("k 1", Checks.fenceText(x, 0, 1, 0), "0/1 1/1");
        CHECKS.due("k 2", Checks.fenceText(x, 0, 2, 0), "NO");
        CHECKS.due("k 0 of none", Checks.fenceText(x, 1, 0, 0), "NO");
    }

    private static void times(String poly, int... want) {
        RootFence x = Checks.with(poly);
        for (int k = 0; k < want.length; k++) {
            CHECKS.due("times of " + poly + ", root " + k, x.times(0, k), want[k]);
        }
        CHECKS.due("times of " + poly + ", no such root", x.times(0, want.length), Checks.BAD);
    }

    private static void times() {
        CHECKS.sentence("TIMES: 1, and how many of D1, D2, .. have a ROOT within");
        times("x-1", 1);
        times("-x^2+2x-1", 2);
        times("x^3-3x^2+3x-1", 3);
        times("16x^4-32x^3+24x^2-8x+1", 4);
        times("-x^4", 4);
        times("x^4-4x^2+4", 2, 2);
        CHECKS.sentence("until one has DEGREE 0");
        times("-7");
        times("x^4+1");
        times("x^4+2x^2+1");
        times("x^3-6x^2+11x-6", 1, 1, 1);
    }

    private static void timesWithinTheFence() {
        CHECKS.sentence("TIMES: within its FENCE by 0");
        times("x^3-4x^2+5x-2", 2, 1);
        times("x^3-5x^2+8x-4", 1, 2);
        times("x^4-5x^3+9x^2-7x+2", 3, 1);
        times("x^4-7x^3+18x^2-20x+8", 1, 3);
        times("x^4-2x^3", 3, 1);
        times("x^4-4x^3+5x^2-2x", 1, 2, 1);
        times("x^4+x^2", 2);
        CHECKS.sentence("TIMES: its FENCE by 0, and by no more");
        times("x-512", 1);
        times("x+511", 1);
        times("x^2-512x", 1, 1);
        times("x^3-512x^2", 2, 1);
        CHECKS.due("no M: FULL", Checks.with("x-999").times(0, 0), Checks.FULL);
        CHECKS.due("no fence: FULL", Checks.with("x^2-999x").times(0, 0), Checks.FULL);
    }

    private static void parts(String poly, String... want) {
        for (int k = 1; k <= 4; k++) {
            CHECKS.due("part " + k + " of " + poly, Checks.made(11, k, poly), want[k - 1]);
        }
        for (int k : new int[] {0, 5, -1, 9, -9}) {
            CHECKS.due("part " + k + " of " + poly, Checks.made(11, k, poly), "answer -1");
        }
    }

    private static void part() {
        CHECKS.sentence("PART m (1 .. 4) of P");
        parts("x^2-1", "x^2-1", "1", "1", "1");
        parts("x^2-2x+1", "1", "x-1", "1", "1");
        parts("x^3-3x^2+3x-1", "1", "1", "x-1", "1");
        parts("x^4-4x^3+6x^2-4x+1", "1", "1", "1", "x-1");
        parts("x^3-4x^2+5x-2", "x-2", "x-1", "1", "1");
        parts("x^4-7x^3+18x^2-20x+8", "x-1", "1", "x-2", "1");
        parts("4x^4-16x^2+16", "1", "x^2-2", "1", "1");
        CHECKS.sentence("a D behind one of DEGREE 0 is 1");
        parts("7", "1", "1", "1", "1");
        parts("-7", "1", "1", "1", "1");
        parts("x", "x", "1", "1", "1");
        parts("x^4+1", "x^4+1", "1", "1", "1");
    }

    private static void partHead() {
        CHECKS.sentence("D0 P CLEANED (its signs turned if its HEAD is below 0)");
        parts("-2x+2", "x-1", "1", "1", "1");
        parts("-6x^3+12x^2-6x", "x", "x-1", "1", "1");
        parts("-x^4", "1", "1", "1", "x");
        parts("8x^3-12x^2+6x-1", "1", "1", "2x-1", "1");
        parts("-8x^3+12x^2-6x+1", "1", "1", "2x-1", "1");
    }

    private static void sign(String p, int k, String q, long want) {
        CHECKS.due("sign of " + q + " at root " + k + " of " + p, Checks.with(p, q).sign(0, k, 1), want);
    }

    private static void signZero() {
        CHECKS.sentence("SIGN: 0, if COMMON of P and Q has a ROOT within its FENCE by 0");
        sign("x^2-4x+3", 0, "x-1", 0);
        sign("x^2-4x+3", 1, "x-1", 1);
        sign("x^2-4x+3", 0, "x-3", -1);
        sign("x^2-4x+3", 1, "x-3", 0);
        sign("x^2-2", 0, "x^4-4", 0);
        sign("x^2-2", 1, "-x^4+4", 0);
        sign("x-1", 0, "x^3-3x^2+3x-1", 0);
    }

    private static void signAtTheEnd() {
        CHECKS.sentence("SIGN: the first FENCE within which Q has no ROOT: Q's sign at its end");
        sign("2x-1", 0, "x", 1);
        sign("2x-1", 0, "-x", -1);
        sign("2x-1", 0, "4x-3", -1);
        sign("2x-1", 0, "4x-1", 1);
        sign("2x-1", 0, "x-1", -1);
        sign("3x-1", 0, "2x-1", -1);
        sign("3x-1", 0, "4x-1", 1);
        sign("x", 0, "-7", -1);
        sign("x", 0, "7", 1);
        sign("x-2", 0, "-x^2-1", -1);
        sign("x^2-2", 0, "x^3", -1);
        sign("x^2-2", 1, "x^3", 1);
    }

    private static void signByNine() {
        CHECKS.sentence("SIGN: FENCES by 0, 1, .. 9 (no further); none of these: FULL");
        sign("512x-1", 0, "511x-1", -1);
        sign("512x-1", 0, "513x-1", Checks.NO);
        sign("512x-1", 0, "999x-1", Checks.NO);
        sign("512x-1", 0, "512x-1", 0);
        sign("512x+1", 0, "512x+1", 0);
        sign("512x+1", 0, "999x+1", -1);
        sign("2x^2-1", 1, "31x-22", -1);
        sign("2x^2-1", 1, "41x-29", Checks.NO);
        CHECKS.sentence("SIGN: by the FENCE by 0, if Q has no ROOT within");
        sign("x-512", 0, "x", 1);
        sign("x-512", 0, "x-512", 0);
        sign("x-512", 0, "x-511", 1);
        sign("x-512", 0, "-x+513", 1);
        sign("x-512", 0, "2x-999", 1);
        sign("x-501", 0, "2x-999", 1);
        sign("2x-999", 0, "x-500", -1);
        sign("x^2-501x-400", 1, "x-501", 1);
        sign("x^2-501x-400", 1, "x-502", Checks.NO);
        CHECKS.sentence("SIGN: a FENCE that is FULL ahead of that");
        sign("x-3", 0, "100x-299", 1);
        sign("x-3", 0, "300x-899", Checks.NO);
        sign("x-999", 0, "x", Checks.NO);
        sign("x-999", 0, "x-999", Checks.NO);
        sign("x", 0, "x-999", -1);
    }

    private static void signs(String p, String q, long want) {
        CHECKS.due("signs of " + q + " at roots of " + p, Checks.with(p, q).signs(0, 1), want);
    }

    private static void sumOfSigns() {
        CHECKS.sentence("SUM of SIGNS: CHANGES BELOW ALL less those ABOVE ALL");
        signs("x^3-6x^2+11x-6", "1", 3);
        signs("x^3-6x^2+11x-6", "-1", -3);
        signs("x^3-6x^2+11x-6", "x", 3);
        signs("x^3-6x^2+11x-6", "x-2", 0);
        signs("x^3-6x^2+11x-6", "x-3", -2);
        signs("-x^3+6x^2-11x+6", "2x-3", 1);
        signs("x^2-2", "x^2-1", 2);
        signs("x^2-2", "x^4-5", -2);
        signs("x^2+1", "x^3-x-7", 0);
        CHECKS.sentence("SUM of SIGNS: of FREE of P, each ROOT once");
        signs("x^4-4x^2+4", "7", 2);
        signs("x^4", "-x^2-1", -1);
        CHECKS.sentence("SUM of SIGNS: that REMAINDER being all 0: 0");
        signs("x^2-1", "x^2-1", 0);
        signs("x^2-1", "-2x^4+2x^2", 0);
        signs("5", "x", 0);
        signs("5", "7", 0);
        signs("x", "x^4", 0);
        CHECKS.sentence("SUM of SIGNS: no FENCE is asked for");
        signs("x-999", "x", 1);
        signs("512x-1", "999x-1", 1);
    }

    private static void which(String p, int i, String q, int j, long want) {
        CHECKS.due("which of root " + i + " of " + p + " and root " + j + " of " + q, Checks.with(p, q).which(0, i, 1, j), want);
        long turned = want == Checks.NO ? want : -want;
        CHECKS.due("which of root " + j + " of " + q + " and root " + i + " of " + p, Checks.with(q, p).which(0, j, 1, i), turned);
    }

    private static void whichAlike() {
        CHECKS.sentence("WHICH: alike (0), if COMMON of both has a ROOT within the FENCE by 0 of each");
        which("x-1", 0, "x^2-3x+2", 0, 0);
        which("x^2-2", 0, "x^4-4", 0, 0);
        which("x^2-2", 1, "x^4-4", 1, 0);
        which("x^2-2x+1", 0, "x-1", 0, 0);
        which("x^2-4x+3", 0, "x^2-3x+2", 1, -1);
        which("x^2-4x+3", 1, "x^2-3x+2", 0, 1);
        which("x^2-4x+3", 1, "x^2-3x+2", 1, 1);
        CHECKS.sentence("WHICH: and as many of COMMON's ROOTS are not above the one FENCE's end as the other's");
        which("x^2-3x+2", 0, "x^2-3x+2", 1, -1);
        which("x^2-3x+2", 1, "x^3-6x^2+11x-6", 0, 1);
        which("x^2-3x+2", 1, "x^3-6x^2+11x-6", 1, 0);
        which("x^2-3x+2", 1, "x^3-6x^2+11x-6", 2, -1);
    }

    private static void whichNothingInCommon() {
        CHECKS.sentence("WHICH: the first FENCES that have nothing in common: -1, if the first one is the lesser");
        which("x-1", 0, "x-2", 0, -1);
        which("x", 0, "2x-1", 0, -1);
        which("2x-1", 0, "3x-2", 0, -1);
        which("3x-1", 0, "2x-1", 0, -1);
        which("x+1", 0, "x-1", 0, -1);
        which("x^2-2", 0, "x^2-3", 0, 1);
        which("x^2-2", 1, "x^2-3", 1, -1);
    }

    private static void whichByNine() {
        CHECKS.sentence("WHICH: FENCES by 0, 1, .. 9 (both by the same, no further); none of these: FULL");
        which("512x-1", 0, "511x-1", 0, -1);
        which("512x-1", 0, "513x-1", 0, Checks.NO);
        which("512x-1", 0, "999x-1", 0, Checks.NO);
        which("512x-1", 0, "512x-1", 0, 0);
        which("2x^2-1", 1, "31x-22", 0, -1);
        which("2x^2-1", 1, "41x-29", 0, Checks.NO);
        CHECKS.sentence("WHICH: by the FENCES by 0, if they have nothing in common");
        which("x-512", 0, "x-511", 0, 1);
        which("x-512", 0, "x-512", 0, 0);
        which("x-512", 0, "x", 0, 1);
        which("x+511", 0, "x-512", 0, -1);
        which("2x-999", 0, "x-500", 0, -1);
        which("x^2-501x-400", 1, "x-501", 0, 1);
        which("x^2-501x-400", 1, "x-502", 0, Checks.NO);
        which("2x-999", 0, "x-501", 0, -1);
        CHECKS.sentence("WHICH: a FENCE that is FULL ahead of that");
        which("x-3", 0, "100x-299", 0, 1);
        which("x-3", 0, "300x-899", 0, Checks.NO);
        which("x-999", 0, "x", 0, Checks.NO);
        which("x-999", 0, "x-999", 0, Checks.NO);
    }

    private static void fractions(String poly, int... want) {
        RootFence x = Checks.with(poly);
        CHECKS.due("fractions of " + poly, x.fraction(0, -1, 0), want.length / 2);
        for (int k = 0; k < want.length / 2; k++) {
            CHECKS.due("u of " + poly + ", " + k, x.fraction(0, k, 0), want[2 * k]);
            CHECKS.due("v of " + poly + ", " + k, x.fraction(0, k, 1), want[2 * k + 1]);
        }
        CHECKS.due("u behind the last of " + poly, x.fraction(0, want.length / 2, 0), Checks.NO);
        CHECKS.due("v behind the last of " + poly, x.fraction(0, want.length / 2, 1), Checks.NO);
    }

    private static void fractions() {
        CHECKS.sentence("FRACTIONS: in lowest terms");
        fractions("4x-2", 1, 2);
        fractions("4x+6", -3, 2);
        fractions("7x", 0, 1);
        fractions("-x+5", 5, 1);
        CHECKS.sentence("FRACTIONS: u without sign and v 999 at most");
        fractions("x-999", 999, 1);
        fractions("x+999", -999, 1);
        fractions("999x-1", 1, 999);
        fractions("999x+1", -1, 999);
        fractions("998x-999", 999, 998);
        fractions("999x+998", -998, 999);
        fractions("x^2-999x", 0, 1, 999, 1);
        fractions("840x^2+2x-783", -29, 30, 27, 28);
        fractions("783x^2-2x-840", -30, 29, 28, 27);
        fractions("840x-839", 839, 840);
        fractions("839x+840", -840, 839);
        fractions("x-840", 840, 1);
        CHECKS.sentence("FRACTIONS: ROOTS that are fractions");
        fractions("x^2-2");
        fractions("x^3-2x", 0, 1);
        fractions("x^4+1");
        fractions("7");
        fractions("x^4-5x^2+6");
        fractions("x^4-3x^2+2", -1, 1, 1, 1);
        CHECKS.sentence("FRACTIONS: unlike ones, from the least on");
        fractions("x^4", 0, 1);
        fractions("x^2-2x+1", 1, 1);
        fractions("-x^4+5x^2-4", -2, 1, -1, 1, 1, 1, 2, 1);
        fractions("36x^4-13x^2+1", -1, 2, -1, 3, 1, 3, 1, 2);
        fractions("2x^3+x^2-x", -1, 1, 0, 1, 1, 2);
        fractions("6x^2-5x+1", 1, 3, 1, 2);
        fractions("15x^2-19x+6", 3, 5, 2, 3);
    }
}
