/** 'Terms', texts, WORDS, FAULT, PRINTED: each sentence that names an edge has a test of its own. */
public final class TermsWordsTest {
    private static final Checks CHECKS = new Checks("TermsWordsTest");
    private static final String[] MAKINGS = {"sum", "product", "less", "common", "derive", "turn", "shift", "stretch",
        "reverse", "free", "rest", "part"};

    public static void main(String[] args) {
        perhapsMinus();
        anyNumberOfTerms();
        figures();
        termWithX();
        powers();
        lesserPowers();
        statements();
        everyWord();
        aBlank();
        aFigureForI();
        oneForJ();
        oneForK();
        noneForTheOthers();
        faultAtTheLength();
        faultOfAWord();
        faultOfATerm();
        faultOfWhatBringsNone();
        faultBringsNone();
        oneByOne();
        longestTape();
        printed();
        CHECKS.end();
    }

    /** What reads() of the words on a new object answers, and what is there then. */
    private static void read(String words, int want, String... polys) {
        RootFence x = new RootFence();
        CHECKS.due("'" + words + "'", Checks.read(x, words), want);
        CHECKS.due("'" + words + "': bytes left", x.count(1), 0);
        StringBuilder text = new StringBuilder();
        for (int p = 0; p < x.count(0); p++) {
            text.append(Checks.printed(x, p)).append(';');
        }
        CHECKS.due("'" + words + "': polynomials", text.toString(), polys.length == 0 ? "" : String.join(";", polys) + ";");
    }

    private static void perhapsMinus() {
        CHECKS.sentence("A text of a POLYNOMIAL: perhaps -, a TERM");
        read("=x", 1, "x");
        read("=-x", 1, "-x");
        read("=-7", 1, "-7");
        read("=+x", -1001);
        read("=--x", -1002);
        read("=-+x", -1002);
        read("=- x", -1002);
    }

    private static void anyNumberOfTerms() {
        CHECKS.sentence("then any number of times + or - and a TERM");
        read("=x^4+x", 1, "x^4+x");
        read("=x^4+x^2-1", 1, "x^4+x^2-1");
        read("=-x^4-x^3-x^2-x-1", 1, "-x^4-x^3-x^2-x-1");
        read("=x^4+x^3+x^2+x+1", 1, "x^4+x^3+x^2+x+1");
        read("=x++1", -1003);
        read("=x+-1", -1003);
        read("=x--1", -1003);
        read("=x*2", -1002);
        read("=x 1", -1002);
        read("=x=", -1002);
    }

    private static void figures() {
        CHECKS.sentence("a NUMBER (1 to 3 figures, the first not 0)");
        read("=1", 1, "1");
        read("=12", 1, "12");
        read("=100", 1, "100");
        read("=999", 1, "999");
        read("=909x^2-90x+9", 1, "909x^2-90x+9");
        read("=0", -1001);
        read("=-0", -1002);
        read("=0x", -1001);
        read("=00", -1001);
        read("=01", -1001);
        read("=x+0", -1003);
        read("=x-09", -1003);
        read("=x^2+0x", -1005);
        CHECKS.sentence("a fourth figure: its own place");
        read("=1000", -1004);
        read("=1234", -1004);
        read("=-1234", -1005);
        read("=1234x", -1004);
        read("=x+1234", -1006);
        read("=x^2-1234x", -1008);
    }

    private static void termWithX() {
        CHECKS.sentence("TERM: a NUMBER, or it and x, or x");
        read("=2x", 1, "2x");
        read("=999x", 1, "999x");
        read("=1x", 1, "x");
        read("=-1x+1", 1, "-x+1");
        read("=x2", -1002);
        read("=xx", -1002);
        read("=2xx", -1003);
        read("=X", -1001);
        read("=y", -1001);
        read("=2y", -1002);
        read("=2*x", -1002);
    }

    private static void powers() {
        CHECKS.sentence("behind x perhaps ^ and 2, 3 or 4");
        read("=x^2", 1, "x^2");
        read("=x^3", 1, "x^3");
        read("=x^4", 1, "x^4");
        read("=12x^4", 1, "12x^4");
        read("=x^", -1003);
        for (char other : new char[] {'0', '1', '5', '9', '-', '+', 'x', '^', ' ', ';'}) {
            read("=x^" + other, -1003);
        }
        read("=2^2", -1002);
        read("=x^22", -1004);
        read("=x^2^2", -1004);
        read("=x^2x", -1004);
    }

    private static void lesserPowers() {
        CHECKS.sentence("each TERM of a lesser power than the one ahead");
        read("=x^4+x^3", 1, "x^4+x^3");
        read("=x^2+1", 1, "x^2+1");
        read("=x^3+x^3", -1005);
        read("=x^3+x^4", -1005);
        read("=x^2+x^3", -1005);
        read("=x+x", -1003);
        read("=x+x^2", -1003);
        read("=1+1", -1003);
        read("=1+x", -1003);
        read("=x^4+1+x", -1007);
        read("=x^4+x-x", -1007);
    }

    private static void statements() {
        CHECKS.sentence("WORDS: STATEMENTS, one or more, parted by ;");
        read("=1", 1, "1");
        read("=1;=2", 2, "1", "2");
        read("=1;=2;=3;=4;=5;=6;=7;=8", 8, "1", "2", "3", "4", "5", "6", "7", "8");
        read("", -1000);
        read(";", -1000);
        read(";=1", -1000);
        read("=1;", -1003);
        read("=1;;=2", -1003);
        read("=1=2", -1002);
        read("=1,=2", -1002);
        read("=1; =2", -1003);
        read("=1 ;=2", -1002);
    }

    private static void everyWord() {
        CHECKS.sentence("a word of MAKING (those above)");
        for (int what = 0; what < 12; what++) {
            boolean two = what < 4 || what == 10;
            boolean k = what == 6 || what == 7 || what == 11;
            String words = MAKINGS[what] + " 0" + (two || k ? " 1" : "");
            RootFence x = Checks.with("2x^2+3x+1", "x^2-1");
            CHECKS.due("'" + words + "'", Checks.read(x, words), 1);
            CHECKS.due("'" + words + "'", Checks.printed(x, 2), Checks.made(what, 1, "2x^2+3x+1", "x^2-1"));
        }
    }

    private static void aBlank() {
        CHECKS.sentence("each behind a blank");
        for (String word : MAKINGS) {
            int behind = word.length();
            read(word, -1000 - behind);
            read(word + "0", -1000 - behind);
            read(word + ";=x", -1000 - behind);
            read(word + "\t0", -1000 - behind);
            read(word + "  0", -1001 - behind);
        }
        for (String word : new String[] {"sum", "product", "less", "common", "rest", "shift", "stretch", "part"}) {
            int behind = word.length() + 2;
            read(word + " 0", -1000 - behind);
            read(word + " 0-1", -1000 - behind);
            read(word + " 0;=x", -1000 - behind);
            read(word + " 00", -1000 - behind);
            read(word + " 0  1", -1001 - behind);
        }
    }

    private static void aFigureForI() {
        CHECKS.sentence("a figure for i");
        for (String word : MAKINGS) {
            int behind = word.length() + 1;
            read(word + " ", -1000 - behind);
            read(word + " x", -1000 - behind);
            read(word + " -0", -1000 - behind);
            read(word + " :", -1000 - behind);
            read(word + " /", -1000 - behind);
        }
        read("=x;turn 0", 2, "x", "-x");
        read("=x;turn 1", -2003);
        read("=x;turn 9", -2003);
        read("=x;turn 10", -1009);
        read("=1;=2;=3;=4;=5;=6;=x;turn 6", 8, "1", "2", "3", "4", "5", "6", "x", "-x");
    }

    private static void oneForJ() {
        CHECKS.sentence("for sum, product, less, common, rest one for j");
        for (String word : new String[] {"sum", "product", "less", "common", "rest"}) {
            int behind = word.length() + 3;
            read(word + " 0 ", -1000 - behind);
            read(word + " 0 -1", -1000 - behind);
            read(word + " 0 x", -1000 - behind);
            read(word + " 0 1x", -1001 - behind);
            read(word + " 0 12", -1001 - behind);
            read(word + " 0 1 ", -1001 - behind);
            read(word + " 0 0 0", -1001 - behind);
        }
        read("=x;sum 0 1", -2003);
        read("=x;sum 1 0", -2003);
        read("=x;=1;sum 0 1", 3, "x", "1", "x+1");
        read("=x;=1;less 1 0", 3, "x", "1", "-x+1");
    }

    private static void oneForK() {
        CHECKS.sentence("for shift, stretch, part one for k (perhaps - ahead of it)");
        for (String word : new String[] {"shift", "stretch", "part"}) {
            int behind = word.length() + 3;
            read(word + " 0 ", -1000 - behind);
            read(word + " 0 +1", -1000 - behind);
            read(word + " 0 -", -1001 - behind);
            read(word + " 0 --1", -1001 - behind);
            read(word + " 0 - 1", -1001 - behind);
            read(word + " 0 10", -1001 - behind);
            read(word + " 0 -10", -1002 - behind);
            read(word + " 0 1 ", -1001 - behind);
        }
        read("=x;shift 0 9", 2, "x", "x+9");
        read("=x;shift 0 -9", 2, "x", "x-9");
        read("=x;shift 0 0", 2, "x", "x");
        read("=x;shift 0 -0", 2, "x", "x");
        read("=x;stretch 0 9", 2, "x", "9x");
        read("=x;stretch 0 -9", 2, "x", "-9x");
        read("=x;stretch 0 0", -2003);
        read("=x;part 0 1", 2, "x", "x");
        read("=x;part 0 4", 2, "x", "1");
        read("=x;part 0 0", -2003);
        read("=x;part 0 5", -2003);
        read("=x;part 0 -1", -2003);
        read("=x;part 0 -0", -2003);
    }

    private static void noneForTheOthers() {
        CHECKS.sentence("derive, turn, reverse, free: a figure for i alone");
        for (String word : new String[] {"derive", "turn", "reverse", "free"}) {
            int behind = word.length() + 2;
            read("=x;" + word + " 0", 2, "x", word.equals("turn") ? "-x" : word.equals("free") ? "x" : "1");
            read(word + " 0 0", -1000 - behind);
            read(word + " 0 ", -1000 - behind);
            read(word + " 00", -1000 - behind);
            read(word + " 0x", -1000 - behind);
        }
    }

    private static void faultAtTheLength() {
        CHECKS.sentence("FAULT: the length, if they end too early");
        read("", -1000);
        read("=", -1001);
        read("=-", -1002);
        read("=x+", -1003);
        read("=x-", -1003);
        read("=x^", -1003);
        read("=x;", -1003);
        read("=x;=", -1004);
        read("sum", -1003);
        read("sum ", -1004);
        read("sum 0", -1005);
        read("sum 0 ", -1006);
        read("part 0 -", -1008);
    }

    private static void faultOfAWord() {
        CHECKS.sentence("FAULT: of a word that is none where it begins, a word being as many letters a .. z as stand there");
        read("x", -1000);
        read("su", -1000);
        read("sumx 0 1", -1000);
        read("sums", -1000);
        read("summ 0 1", -1000);
        read("sun 0 1", -1000);
        read("=x;deriv 0", -1003);
        read("=x;derived 0", -1003);
        read("=x;turn 0;parts 0 1", -1010);
        read("sumX 0", -1003);
        read("sum{ 0", -1003);
        read("sum` 0", -1003);
        read("Sum 0 1", -1000);
        read("SUM 0 1", -1000);
        read(" sum 0 1", -1000);
        read("0", -1000);
        for (String word : MAKINGS) {
            for (int i = 0; i < word.length(); i++) {
                for (char letter : new char[] {'a', 'q', 'z'}) {
                    String other = word.substring(0, i) + letter + word.substring(i + 1);
                    if (!other.equals(word)) {
                        read("=x;" + other + " 0 1", -1003);
                    }
                }
            }
            read(word + "a 0 1", -1000);
            read(word + "z 0 1", -1000);
            read("z" + word + " 0 1", -1000);
            read(word + word + " 0 1", -1000);
            read(word.substring(1) + " 0 1", -1000);
            read(word.substring(0, word.length() - 1) + " 0 1", -1000);
        }
        read("z", -1000);
        CHECKS.sentence("A word that is none is a FAULT where it begins, at the end of THE TAPE, too");
        read("=x;su", -1003);
        read("=x;m", -1003);
        read("=x;sumx", -1003);
        read("partt", -1000);
    }

    private static void faultOfATerm() {
        CHECKS.sentence("A TERM whose power isn't less is a FAULT where it begins, behind its sign");
        read("=x+x", -1003);
        read("=x-x", -1003);
        read("=-x+x", -1004);
        read("=x^2-3x+12x", -1008);
        read("=7-123", -1003);
        CHECKS.sentence("A TERM is read as far as it goes (x^2, 3x, 12), then its power is looked at");
        read("=x^3+x^2", 1, "x^3+x^2");
        read("=x^2+x^2", -1005);
        read("=x^2+x^3y", -1005);
        read("=x+3xy", -1003);
        read("=3+12y", -1003);
        read("=3+12x^2", -1003);
        read("=x^2+x^9", -1007);
        read("=x^2+x^", -1007);
        CHECKS.sentence("a fourth figure, a second sign, a 0 as first figure: their own place");
        read("=x+1234", -1006);
        read("=x+-3", -1003);
        read("=x+03", -1003);
        read("=x^2-x-0", -1007);
    }

    private static void faultOfWhatBringsNone() {
        CHECKS.sentence("else -2000 less the place where the first STATEMENT begins that brings none");
        read("sum 0 0", -2000);
        read("=x;less 0 0", -2003);
        read("=x;less 0 0;less 0 0", -2003);
        read("=x;turn 0;product 0 5;less 0 0", -2010);
        read("=x^4;product 0 0", -2005);
        read("=999;sum 0 0", -2005);
        read("=7;derive 0", -2003);
        read("=x;rest 0 0", -2003);
        read("=1;=2;=3;=4;=5;=6;=7;=8;=9", -2024);
        CHECKS.sentence("All of THE TAPE is read for FAULTS ahead of what a STATEMENT that brings none answers");
        read("=x;less 0 0;=", -1013);
        read("sum 0 0;x", -1008);
        read("=1;=2;=3;=4;=5;=6;=7;=8;=9;=0", -1028);
    }

    private static void faultBringsNone() {
        CHECKS.sentence("With a FAULT none comes");
        for (String words : new String[] {"=1;=2;=", "=1;=2;sum 9 0", "=1;=2;=3;=4;=5;=6;=7"}) {
            RootFence x = Checks.with("x", "x-1");
            Checks.row(x, 1, 5, 6);
            x.prints(1);
            String before = Checks.wholeState(x);
            CHECKS.due(words, Checks.read(x, words) < -999 ? 1 : 0, 1);
            CHECKS.due(words + ": what is there after it", Checks.wholeState(x), before);
            CHECKS.due("the next one comes", Checks.read(x, "sum 0 1"), 1);
            CHECKS.due("its number is as if none had come", Checks.printed(x, 2), "2x-1");
        }
    }

    private static void oneByOne() {
        CHECKS.sentence("Each brings a POLYNOMIAL, one by one (later ones may name those that came ahead)");
        read("=x;sum 0 0;sum 1 1;sum 2 2;sum 3 3;sum 4 4;sum 5 5;sum 6 6", 8, "x", "2x", "4x", "8x", "16x", "32x", "64x", "128x");
        read("=x;turn 0;=x", 3, "x", "-x", "x");
        CHECKS.sentence("one by one: a later one can't be named");
        read("=x;sum 0 2;=x", -2003);
        read("turn 0;=x", -2000);
    }

    private static void longestTape() {
        CHECKS.sentence("THE TAPE holds 0 .. 120 bytes, all of them read");
        String one = "x^4+x^3+x^2+x+1";
        String six = ("=" + one + ";").repeat(6);
        CHECKS.due("bytes", six.length(), 102);
        read(six + "=999x^4-999x^2-999", 7, one, one, one, one, one, one, "999x^4-999x^2-999");
        read(six + "=999x^4-999x^2-99x", 7, one, one, one, one, one, one, "999x^4-999x^2-99x");
        read(six + "=999x^4-999x^1-999", -1115);
        read(six + "=999x^4-999x^2-99+", -1120);
        read(six + "=999x^4-999x^2-99;", -1120);
        read(six + "=999x^4-999x^2-99y", -1119);
        read(six + "=999x^4-999x^2-9x^", -1120);
        read(six + "=999x^4-999x^2-9xx", -1119);
        read(";".repeat(120), -1000);
        read("=1" + ";=1".repeat(39), -2024);
        read("=1" + ";=1".repeat(38) + ";", -1117);
        read("a".repeat(120), -1000);
    }

    private static void printed(String poly) {
        RootFence x = Checks.with(poly);
        CHECKS.due("prints " + poly, x.prints(0), poly.length());
        CHECKS.due("printed", Checks.paperText(x), poly);
    }

    private static void printed() {
        CHECKS.sentence("PRINTED: TERMS from the greatest power on, no 1 ahead of x, no + ahead of the first");
        for (String poly : new String[] {"1", "-1", "x", "-x", "x+1", "-x-1", "x^4+x^3+x^2+x+1", "-x^4-x^3-x^2-x-1",
            "2x^4", "10x^3-100", "-11x^2+11x", "100x^4-10x+1", "101x^3+110x^2-909x-990",
            "-999x^4-999x^3-999x^2-999x-999"}) {
            printed(poly);
        }
        RootFence x = new RootFence();
        x.poly(5, 0, 0, 0, -999);
        CHECKS.due("prints", x.prints(0), 9);
        CHECKS.due("printed", Checks.paperText(x), "-999x^4+5");
        RootFence y = new RootFence();
        Checks.read(y, "=1x^2-1x+1");
        CHECKS.due("a TERM of 1 x told with the 1", Checks.printed(y, 0), "x^2-x+1");
    }
}
