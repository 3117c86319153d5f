/** 'Said once more', 'Answers, of several the first as here', 'SO THAT NOTHING IS READ TWO WAYS': a test for each. */
public final class OnceMoreTest {
    private static final Checks CHECKS = new Checks("OnceMoreTest");
    private static final String WIDE = "-971x^4+977x^3+983x^2-991x+997";
    private static final int[] NONE = {-1, 2, 8, 9, Integer.MIN_VALUE, Integer.MAX_VALUE};

    public static void main(String[] args) {
        freeOfDegreeZero();
        rootsAskedFirst();
        noSuchRoot();
        makeInOrder();
        readsWithEight();
        ofLikeNumbers();
        drawsGoAheadOfTheHead();
        badAheadOfFullAheadOfNot();
        badAheadOfNothing();
        nothingAheadOfBeyond();
        nothingAheadOfFull();
        badAheadOfBelow();
        noInsteadOfAll();
        changesNothing();
        tapeIsEmptyThen();
        memoryOfItsOwn();
        remainderAsItIs();
        notLookedAt();
        oneX();
        valueAsTold();
        intoFromTheEnd();
        manyCalls();
        CHECKS.end();
    }

    private static RootFence eight() {
        return Checks.with("x", "x", "x", "x", "x", "x", "x", "x");
    }

    private static void freeOfDegreeZero() {
        CHECKS.sentence("a FREE of DEGREE 0 is all of its CHAIN");
        RootFence x = Checks.with("-6", "x");
        CHECKS.due("chain", Checks.chainText(x, 0), "1 0 0 0 0;");
        CHECKS.due("changes", x.changes(0, -1000, 1), 0);
        CHECKS.due("roots", x.roots(0), 0);
        CHECKS.due("within", x.within(0, -1000, 1, 1000, 1), 0);
        CHECKS.due("bound", x.bound(0), 1);
        CHECKS.due("fence", Checks.fenceText(x, 0, 0, 0), "NO");
        CHECKS.due("times", x.times(0, 0), Checks.BAD);
        CHECKS.due("shared", x.shared(0, 1), 0);
        CHECKS.due("shared with itself", x.shared(0, 0), 0);
        CHECKS.due("sign", x.sign(1, 0, 0), -1);
        CHECKS.due("signs", x.signs(1, 0), -1);
        CHECKS.due("signs at none", x.signs(0, 1), 0);
        CHECKS.due("which", x.which(0, 0, 1, 0), Checks.NO);
        CHECKS.due("fraction", x.fraction(0, -1, 0), 0);
    }

    private static void rootsAskedFirst() {
        CHECKS.sentence("how many ROOTS there are is asked first (FULL goes ahead of a k that is none)");
        RootFence x = Checks.with(WIDE, "x^2+1", "x-999");
        for (int k : new int[] {-1, 0, 1, 4, Integer.MIN_VALUE, Integer.MAX_VALUE}) {
            CHECKS.due("times(0, " + k + ")", x.times(0, k), Checks.FULL);
            CHECKS.due("times(1, " + k + ")", x.times(1, k), Checks.BAD);
            CHECKS.due("times(2, " + k + ")", x.times(2, k), k == 0 ? Checks.FULL : Checks.BAD);
            CHECKS.due("times(3, " + k + ")", x.times(3, k), Checks.BAD);
            CHECKS.due("fence(0, " + k + ", 0, 0)", x.fence(0, k, 0, 0), Checks.NO);
            CHECKS.due("sign(0, " + k + ", 1)", x.sign(0, k, 1), Checks.NO);
            CHECKS.due("which(0, " + k + ", 1, 0)", x.which(0, k, 1, 0), Checks.NO);
        }
    }

    private static void noSuchRoot() {
        CHECKS.sentence("k below 0 or not below that many is no such one");
        RootFence x = Checks.with("x^2-3x+2", "x^3-x");
        for (int k = -2; k < 5; k++) {
            boolean two = k >= 0 && k < 2;
            boolean three = k >= 0 && k < 3;
            CHECKS.due("times(0, " + k + ")", x.times(0, k), two ? 1 : Checks.BAD);
            CHECKS.due("times(1, " + k + ")", x.times(1, k), three ? 1 : Checks.BAD);
            CHECKS.due("fence(0, " + k + ", 0, 2)", x.fence(0, k, 0, 2), two ? k + 1 : Checks.NO);
            CHECKS.due("fence(1, " + k + ", 0, 2)", x.fence(1, k, 0, 2), three ? k - 1 : Checks.NO);
            CHECKS.due("sign(0, " + k + ", 1)", x.sign(0, k, 1), two ? k : Checks.NO);
            CHECKS.due("sign(1, " + k + ", 0)", x.sign(1, k, 0), three ? (k == 2 ? 0 : 1) : Checks.NO);
            CHECKS.due("which(0, " + k + ", 1, 2)", x.which(0, k, 1, 2), two ? k : Checks.NO);
            CHECKS.due("which(0, 0, 1, " + k + ")", x.which(0, 0, 1, k), three ? (k == 2 ? 0 : 1) : Checks.NO);
        }
    }

    private static void makeInOrder() {
        CHECKS.sentence("make(): BAD, then FULL for eight, then what comes of it");
        for (int what = 0; what < 12; what++) {
            int w = what;
            RootFence x = eight();
            CHECKS.refused(x, "make(" + w + ", 0, 1) with eight", () -> x.make(w, 0, 1), Checks.FULL);
            CHECKS.refused(x, "make(" + w + ", 8, 1) with eight", () -> x.make(w, 8, 1), Checks.BAD);
            CHECKS.refused(x, "make(" + w + ", -1, 1) with eight", () -> x.make(w, -1, 1), Checks.BAD);
            boolean needed = w < 4 || w == 6 || w == 7 || w > 9;
            CHECKS.refused(x, "make(" + w + ", 0, 10) with eight", () -> x.make(w, 0, 10), needed ? Checks.BAD : Checks.FULL);
        }
        RootFence y = eight();
        CHECKS.due("make(12, 0, 0) with eight", y.make(12, 0, 0), Checks.BAD);
        CHECKS.due("make(-1, 0, 0) with eight", y.make(-1, 0, 0), Checks.BAD);
        CHECKS.refused(y, "less, all 0, with eight", () -> y.make(2, 0, 0), Checks.FULL);
        y.drop();
        CHECKS.refused(y, "less, all 0, with seven", () -> y.make(2, 0, 0), Checks.NOT);
    }

    private static void readsWithEight() {
        CHECKS.sentence("reads() with eight there: -2000");
        String[] words = {"=x", "=x;=x", "sum 0 1", "less 0 1", "sum 9 9", "=x;=", ""};
        for (int i = 0; i < words.length; i++) {
            String text = words[i];
            RootFence x = eight();
            CHECKS.refused(x, "'" + text + "'", () -> Checks.read(x, text), i < 5 ? -2000 : -1000 - text.length());
        }
    }

    private static void ofLikeNumbers() {
        CHECKS.sentence("of(.., 2): like NUMBERS");
        RootFence x = Checks.with("x-1", "-x+1", "2x-2", "x-1", "x^2-x", "x-1");
        int[] want = {3, 1, 1, 3, 1, 3};
        for (int p = 0; p < 6; p++) {
            CHECKS.due("of(" + p + ", 2)", x.of(p, 2), want[p]);
        }
        x.drop();
        CHECKS.due("of(0, 2) when one went", x.of(0, 2), 2);
        RootFence y = new RootFence();
        for (int power = 0; power < 5; power++) {
            y.poly(1, power == 1 ? 2 : 1, power == 2 ? 2 : 1, power == 3 ? 2 : 1, power == 4 ? 2 : 1);
        }
        y.poly(2, 1, 1, 1, 1);
        for (int p = 0; p < 6; p++) {
            CHECKS.due("unlike in one power alone, " + p, y.of(p, 2), 1);
        }
        CHECKS.due("of eight", eight().of(7, 2), 8);
    }

    private static void drawsGoAheadOfTheHead() {
        CHECKS.sentence("lots(): all DRAWS go ahead of a HEAD that becomes 1");
        RootFence x = new RootFence();
        int zeros = 0;
        for (int z = 0; z < 40; z++) {
            int first = z * 1103515245 + 12345;
            int second = first * 1103515245 + 12345;
            int head = (second & 0x7fffffff) / 65536 % 3 - 1;
            zeros += head == 0 ? 1 : 0;
            CHECKS.due("lots(1, 1, 1, " + z + ")", x.lots(1, 1, 1, z), 1);
        }
        CHECKS.due("some heads were 0", zeros > 0 ? 1 : 0, 1);
    }

    private static void badAheadOfFullAheadOfNot() {
        CHECKS.sentence("of several the first: BAD, FULL, NOT");
        RootFence x = eight();
        CHECKS.refused(x, "poly of 0s with eight", () -> x.poly(0, 0, 0, 0, 0), Checks.FULL);
        CHECKS.refused(x, "poly of 1000 with eight", () -> x.poly(1000, 0, 0, 0, 0), Checks.BAD);
        RootFence wide = Checks.with(WIDE, "x");
        CHECKS.refused(wide, "changes", () -> wide.changes(0, 1001, 1), Checks.BAD);
        CHECKS.refused(wide, "changes", () -> wide.changes(0, 0, 0), Checks.BAD);
        CHECKS.refused(wide, "within", () -> wide.within(0, 1, 1, 1, 1), Checks.BAD);
        CHECKS.refused(wide, "within", () -> wide.within(0, 0, 1, 1, 0), Checks.BAD);
        CHECKS.refused(wide, "shared", () -> wide.shared(0, 2), Checks.BAD);
        CHECKS.refused(wide, "shared", () -> wide.shared(2, 0), Checks.BAD);
        CHECKS.refused(wide, "judge", () -> wide.judge(0, 0, -1), Checks.BAD);
        CHECKS.refused(wide, "paper", () -> wide.paper(-1), Checks.BAD);
        CHECKS.refused(wide, "paper", () -> wide.paper(0), Checks.NOT);
        RootFence fed = new RootFence();
        Checks.feed(fed, "x".repeat(120));
        CHECKS.refused(fed, "feed", () -> fed.feed(0), Checks.BAD);
        CHECKS.refused(fed, "feed", () -> fed.feed(128), Checks.BAD);
        CHECKS.refused(fed, "feed", () -> fed.feed(127), Checks.FULL);
    }

    private static void badAheadOfNothing() {
        CHECKS.sentence("of several the first: BAD ahead of NOTHING");
        RootFence x = Checks.with("x");
        CHECKS.refused(x, "judge, no P", () -> x.judge(1, 0, 0), Checks.BAD);
        CHECKS.refused(x, "judge, q below 0", () -> x.judge(0, 0, -1), Checks.BAD);
        CHECKS.refused(x, "into, no P", () -> x.into(1, 0, 0), Checks.BAD);
        CHECKS.refused(x, "into, no list", () -> x.into(0, 4, -1), Checks.BAD);
        CHECKS.refused(x, "set, no list", () -> x.set(4, -1, 0), Checks.BAD);
        CHECKS.refused(x, "set, no list", () -> x.set(-1, -1, 0), Checks.BAD);
    }

    private static void nothingAheadOfBeyond() {
        CHECKS.sentence("of several the first: NOTHING ahead of BEYOND");
        RootFence x = Checks.with("x");
        CHECKS.refused(x, "set(0, -1, 0)", () -> x.set(0, -1, 0), Checks.NOTHING);
        CHECKS.refused(x, "set(0, 24, 0)", () -> x.set(0, 24, 0), Checks.NOTHING);
        CHECKS.refused(x, "into(0, 0, -1)", () -> x.into(0, 0, -1), Checks.NOTHING);
        x.list(0, 1);
        CHECKS.refused(x, "set(0, -1, 0)", () -> x.set(0, -1, 0), Checks.BEYOND);
        CHECKS.refused(x, "set(0, 1, 0)", () -> x.set(0, 1, 0), Checks.BEYOND);
        CHECKS.refused(x, "into(0, 0, -1)", () -> x.into(0, 0, -1), Checks.BEYOND);
    }

    private static void nothingAheadOfFull() {
        CHECKS.sentence("of several the first: NOTHING ahead of FULL");
        RootFence x = Checks.with(WIDE);
        CHECKS.refused(x, "judge", () -> x.judge(0, 0, 0), Checks.NOTHING);
        x.list(0, 0);
        CHECKS.refused(x, "judge, the list there", () -> x.judge(0, 0, 0), Checks.FULL);
        CHECKS.refused(x, "judge, from beyond", () -> x.judge(0, 0, 99), Checks.FULL);
    }

    private static void badAheadOfBelow() {
        CHECKS.sentence("of several the first: BAD ahead of BELOW");
        RootFence x = new RootFence();
        CHECKS.refused(x, "list(4, -1)", () -> x.list(4, -1), Checks.BAD);
        CHECKS.refused(x, "list(-1, -1)", () -> x.list(-1, -1), Checks.BAD);
        CHECKS.refused(x, "list(0, -1)", () -> x.list(0, -1), Checks.BELOW);
        CHECKS.refused(x, "list(0, 25)", () -> x.list(0, 25), Checks.BAD);
        CHECKS.refused(x, "list(0, min)", () -> x.list(0, Integer.MIN_VALUE), Checks.BELOW);
        CHECKS.refused(x, "list(0, max)", () -> x.list(0, Integer.MAX_VALUE), Checks.BAD);
    }

    private static void noInsteadOfAll() {
        CHECKS.sentence("Where an answer may be any int, NO instead of all of these");
        RootFence x = Checks.with("x", WIDE);
        for (int p : NONE) {
            CHECKS.due("number, p " + p, x.number(p, 0), Checks.NO);
            CHECKS.due("value, p " + p, x.value(p, 0, 1), Checks.NO);
            CHECKS.due("chain, p " + p, x.chain(p, -1, 0), Checks.NO);
            CHECKS.due("fence, p " + p, x.fence(p, 0, 0, 0), Checks.NO);
            CHECKS.due("sign, p " + p, x.sign(p, 0, 0), Checks.NO);
            CHECKS.due("sign, q " + p, x.sign(0, 0, p), Checks.NO);
            CHECKS.due("signs, p " + p, x.signs(p, 0), Checks.NO);
            CHECKS.due("signs, q " + p, x.signs(0, p), Checks.NO);
            CHECKS.due("which, p " + p, x.which(p, 0, 0, 0), Checks.NO);
            CHECKS.due("which, q " + p, x.which(0, 0, p, 0), Checks.NO);
            CHECKS.due("fraction, p " + p, x.fraction(p, -1, 0), Checks.NO);
        }
        CHECKS.due("FULL: chain", x.chain(1, -1, 0), Checks.NO);
        CHECKS.due("FULL: fence", x.fence(1, 0, 0, 0), Checks.NO);
        CHECKS.due("FULL: sign", x.sign(1, 0, 0), Checks.NO);
        CHECKS.due("FULL: signs", x.signs(1, 0), Checks.NO);
        CHECKS.due("FULL: which", x.which(1, 0, 0, 0), Checks.NO);
        CHECKS.due("NOTHING: get", x.get(0, 0), Checks.NO);
        CHECKS.due("BAD: get", x.get(4, 0), Checks.NO);
        x.list(0, 1);
        CHECKS.due("BEYOND: get", x.get(0, 1), Checks.NO);
    }

    private static void changesNothing() {
        CHECKS.sentence("What is answered so changes nothing");
        RootFence x = laidOut();
        CHECKS.refused(x, "poly", () -> x.poly(1000, 1, 1, 1, 1), Checks.BAD);
        CHECKS.refused(x, "poly", () -> x.poly(0, 0, 0, 0, 0), Checks.NOT);
        CHECKS.refused(x, "make", () -> x.make(0, 1, 2), Checks.NOT);
        CHECKS.refused(x, "make", () -> x.make(1, 0, 0), Checks.FULL);
        CHECKS.refused(x, "make", () -> x.make(0, 0, 3), Checks.BAD);
        CHECKS.refused(x, "feed", () -> x.feed(0), Checks.BAD);
        CHECKS.refused(x, "lots", () -> x.lots(0, 1, 1, 1), Checks.BAD);
        CHECKS.due("back()", x.back(), 3);
        CHECKS.due("the tape's words", x.reads(), 1);
        RootFence y = laidOut();
        CHECKS.refused(y, "prints", () -> y.prints(3), Checks.BAD);
        CHECKS.refused(y, "prints", () -> y.prints(-1), Checks.BAD);
        CHECKS.refused(y, "list", () -> y.list(2, 25), Checks.BAD);
        CHECKS.refused(y, "list", () -> y.list(2, -1), Checks.BELOW);
        CHECKS.refused(y, "set", () -> y.set(2, 3, 9), Checks.BEYOND);
        CHECKS.refused(y, "set", () -> y.set(1, 0, 9), Checks.NOTHING);
        RootFence z = laidOut();
        CHECKS.refused(z, "into", () -> z.into(0, 2, -1), Checks.BEYOND);
        CHECKS.refused(z, "into", () -> z.into(0, 1, 0), Checks.NOTHING);
        CHECKS.refused(z, "into", () -> z.into(3, 2, 0), Checks.BAD);
        RootFence none = new RootFence();
        CHECKS.refused(none, "drop", none::drop, Checks.STATE);
        CHECKS.refused(none, "back", none::back, Checks.STATE);
        CHECKS.due("back() again", none.back(), Checks.STATE);
        CHECKS.due("drop() again", none.drop(), Checks.STATE);
    }

    /** Three polynomials, one list, a paper, an image, words that have not been read. */
    private static RootFence laidOut() {
        RootFence x = Checks.with("x^3", "x", "-x");
        Checks.row(x, 2, 4, 5, 6);
        x.prints(1);
        x.image();
        Checks.feed(x, "=x");
        return x;
    }

    private static void tapeIsEmptyThen() {
        CHECKS.sentence("but THE TAPE, where it is read: it is empty then");
        RootFence x = Checks.with("x");
        for (String words : new String[] {"=x+", "sum 0 9", "=x", "", "=x;less 0 0"}) {
            Checks.feed(x, words);
            CHECKS.due("bytes ahead of reads()", x.count(1), words.length());
            x.reads();
            CHECKS.due("bytes behind reads() of '" + words + "'", x.count(1), 0);
        }
        CHECKS.due("what was read stays no longer", x.reads(), -1000);
        CHECKS.due("what is read then", Checks.read(x, "=1"), 1);
    }

    private static void memoryOfItsOwn() {
        CHECKS.sentence("All memory is the class's own");
        RootFence one = Checks.with("x-1", "x");
        RootFence other = Checks.with("x-2");
        Checks.row(one, 0, 1, 2, 3);
        one.prints(0);
        one.image();
        Checks.feed(one, "=1");
        CHECKS.due("the other's state", Checks.wholeState(other), "-2,1,0,0,0, 0/0 ; ; ; ;");
        CHECKS.due("the other has no image", other.back(), Checks.STATE);
        CHECKS.due("the one's fence", Checks.fenceText(one, 0, 0, 0), "0/1 1/1");
        CHECKS.due("the other's fence", Checks.fenceText(other, 0, 0, 0), "1/1 2/1");
        CHECKS.due("the one's fence", Checks.fenceText(one, 0, 0, 0), "0/1 1/1");
        CHECKS.due("the one's words", one.reads(), 1);
        CHECKS.due("the other's tape", other.reads(), -1000);
        CHECKS.due("the one's state", Checks.wholeState(one), "-1,1,0,0,0, 0,1,0,0,0, 1,0,0,0,0, 0/3 1 2 3; ; ; ;x-1");
    }

    private static void remainderAsItIs() {
        CHECKS.sentence("REMAINDER: P is CLEANED first, Q stays as it is; P of a lesser DEGREE is P CLEANED");
        CHECKS.due("P of a lesser DEGREE", Checks.made(10, 1, "-6x+4", "x^2"), "-3x+2");
        CHECKS.due("P of DEGREE 0", Checks.made(10, 1, "-6", "2x"), "-1");
        CHECKS.due("P CLEANED first: 2x^2 + 499x + 1", Checks.made(10, 1, "4x^2+998x+2", "998x-1"), "1");
        // Q CLEANED would be 2x - 1, and the step -2x^2 + 1000x less one of 1000000 and more.
        CHECKS.due("Q as it is", Checks.made(10, 1, "x^2+999x", "998x-499"), "1");
        RootFence x = Checks.with("x^2+1", "4x-2");
        x.make(10, 0, 1);
        CHECKS.due("Q's numbers stay", Checks.printed(x, 1), "4x-2");
    }

    private static void notLookedAt() {
        CHECKS.sentence("make(): what a MAKING does not need isn't looked at");
        RootFence x = Checks.with("x^2+x-1");
        for (int what : new int[] {4, 5, 8, 9}) {
            for (int j : NONE) {
                CHECKS.due("make(" + what + ", 0, " + j + ")", x.make(what, 0, j), 1);
                x.drop();
            }
        }
        for (int what : new int[] {6, 7, 11}) {
            CHECKS.due("k isn't a polynomial's number, " + what, x.make(what, 0, 4), 1);
            x.drop();
        }
    }

    private static void oneX() {
        CHECKS.sentence("A TERM of 1 x is told with or without the 1, x to the 1 without the ^");
        RootFence x = new RootFence();
        CHECKS.due("reads", Checks.read(x, "=1x^2+1x+1;=x^2+x+1;=-1x;=-x"), 4);
        CHECKS.due("alike", x.of(0, 2), 2);
        CHECKS.due("alike", x.of(2, 2), 2);
        CHECKS.due("x^1", Checks.read(x, "=x^1"), -1003);
        CHECKS.due("1x^1", Checks.read(x, "=1x^1"), -1004);
        CHECKS.due("x^0", Checks.read(x, "=x^0"), -1003);
    }

    private static void valueAsTold() {
        CHECKS.sentence("value(): v to the DEGREE by v as told");
        RootFence x = Checks.with("x^3-6x^2+11x-6", "x^4", "7", "2x-1");
        CHECKS.due("at 1/2", x.value(0, 1, 2), -15);
        CHECKS.due("at 2/4", x.value(0, 2, 4), -120);
        CHECKS.due("at 500/1000", x.value(0, 500, 1000), -1875000000L);
        CHECKS.due("x^4 at 2/2", x.value(1, 2, 2), 16);
        CHECKS.due("x^4 at 0/1000", x.value(1, 0, 1000), 0);
        CHECKS.due("7 at 3/1000", x.value(2, 3, 1000), 7);
        CHECKS.due("2x - 1 at 2/4", x.value(3, 2, 4), 0);
        CHECKS.due("2x - 1 at -3/6", x.value(3, -3, 6), -12);
    }

    private static void intoFromTheEnd() {
        CHECKS.sentence("into() from the LIST's end on or beyond it: 0");
        for (int size : new int[] {0, 1, 4, 5, 6, 24}) {
            for (int q : new int[] {size, size + 1, size + 5, Integer.MAX_VALUE - 4, Integer.MAX_VALUE}) {
                RootFence x = Checks.with("4x^4+3x^3+2x^2+x+7");
                x.list(0, size);
                CHECKS.refused(x, "into(0, 0, " + q + ") of " + size, () -> x.into(0, 0, q), 0);
            }
            RootFence y = Checks.with("4x^4+3x^3+2x^2+x+7");
            y.list(0, size);
            if (size > 0) {
                CHECKS.due("into the last place", y.into(0, 0, size - 1), 1);
                CHECKS.due("the last place", y.get(0, size - 1), 7);
            }
        }
    }

    private static void manyCalls() {
        CHECKS.sentence("An object is used for at most 512 calls");
        RootFence x = new RootFence();
        x.poly(1, 0, -10, 0, 1);
        x.poly(-29, 0, 41, 0, 0);
        for (int n = 2; n < 512; n++) {
            CHECKS.due("which, call " + n, x.which(0, n % 4, 1, 0), n % 4 < 1 ? -1 : 1);
        }
    }
}
