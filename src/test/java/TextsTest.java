/** Promises 20 to 23: feed, reads, prints, paper. */
public final class TextsTest {
    private static final Checks CHECKS = new Checks("TextsTest");

    public static void main(String[] args) {
        feed();
        texts();
        words();
        faultsOfTexts();
        faultsOfWords();
        faultsOfWhatBringsNone();
        prints();
        paper();
        CHECKS.end();
    }

    private static void feed() {
        RootFence x = new RootFence();
        CHECKS.due("feed(0)", x.feed(0), Checks.BAD);
        CHECKS.due("feed(128)", x.feed(128), Checks.BAD);
        CHECKS.due("feed(-1)", x.feed(-1), Checks.BAD);
        CHECKS.due("feed(max)", x.feed(Integer.MAX_VALUE), Checks.BAD);
        CHECKS.due("feed(1)", x.feed(1), 1);
        CHECKS.due("feed(127)", x.feed(127), 2);
        for (int i = 3; i <= 120; i++) {
            CHECKS.due("feed", x.feed('='), i);
        }
        CHECKS.due("the 121st", x.feed('='), Checks.FULL);
        CHECKS.due("the 121st, bad", x.feed(0), Checks.BAD);
        CHECKS.due("count(1)", x.count(1), 120);
        CHECKS.due("reads", x.reads(), -1000);
        CHECKS.due("the tape is empty", x.count(1), 0);
        CHECKS.due("reads nothing", x.reads(), -1000);
        CHECKS.due("feed", x.feed('x'), 1);
    }

    private static void read(String words, int want, String... polys) {
        RootFence x = new RootFence();
        CHECKS.due(words, Checks.read(x, words), want);
        CHECKS.due(words + ": the tape's length", x.count(1), 0);
        CHECKS.due(words + ": polynomials", x.count(0), polys.length);
        for (int p = 0; p < polys.length && p < x.count(0); p++) {
            CHECKS.due(words + ": " + p, Checks.printed(x, p), polys[p]);
        }
    }

    private static void texts() {
        read("=x", 1, "x");
        read("=-x", 1, "-x");
        read("=1x", 1, "x");
        read("=-1x^2+1x-1", 1, "-x^2+x-1");
        read("=999x^4-999x^3+999x^2-999x+999", 1, "999x^4-999x^3+999x^2-999x+999");
        read("=x^4-10x^2+1", 1, "x^4-10x^2+1");
        read("=7", 1, "7");
        read("=-120;=100x-305", 2, "-120", "100x-305");
        read("=1;=2;=3;=4;=5;=6;=7;=8", 8, "1", "2", "3", "4", "5", "6", "7", "8");
    }

    private static void words() {
        read("=x+1;=x-1;sum 0 1;product 0 1;less 0 1;common 0 3;rest 3 0;derive 3", -2050);
        read("=x+1;=x-1;sum 0 1;product 0 1;less 0 1;common 0 3;derive 3", 7,
            "x+1", "x-1", "2x", "x^2-1", "2", "x+1", "2x");
        read("=x^2+2x+3;turn 0;shift 0 -1;stretch 0 3;reverse 0;free 0;rest 0 2;part 0 1", 8,
            "x^2+2x+3", "x^2-2x+3", "x^2+2", "9x^2+6x+3", "3x^2+2x+1", "x^2+2x+3", "2x+1", "x^2+2x+3");
        read("=x;shift 0 9;stretch 0 -9;shift 0 -0;shift 0 0", 5, "x", "x+9", "-9x", "x", "x");
        read("=x^2+1;rest 0 0", -2007);
        RootFence x = Checks.with("x", "x-1");
        CHECKS.due("words go on from what is there", Checks.read(x, "sum 0 1;sum 2 2"), 2);
        CHECKS.due("the last", Checks.printed(x, 3), "4x-2");
    }

    private static void faultsOfTexts() {
        read("", -1000);
        read("=", -1001);
        read("=-", -1002);
        read("=--x", -1002);
        read("=+x", -1001);
        read("=x--1", -1003);
        read("=x+", -1003);
        read("=0", -1001);
        read("=x+0", -1003);
        read("=012x", -1001);
        read("=1234", -1004);
        read("=1234x", -1004);
        read("=x+1234", -1006);
        read("=x^", -1003);
        read("=x^1", -1003);
        read("=x^0", -1003);
        read("=x^5", -1003);
        read("=x^22", -1004);
        read("=x^2x", -1004);
        read("=xx", -1002);
        read("=x2", -1002);
        read("=2y", -1002);
        read("= x", -1001);
        read("=x ", -1002);
        read("=x =x", -1002);
        read("=3-x", -1003);
        read("=x+x", -1003);
        read("=x+2x", -1003);
        read("=x^2-3x^2+1", -1005);
        read("=x^2-3x^4+1", -1005);
        read("=x-1-1", -1005);
        read("=x^2+x^9", -1007);
        read("=x;", -1003);
        read("=x;=", -1004);
        read("=x;;=x", -1003);
        read(";=x", -1000);
        read("x", -1000);
        read("=x,=x", -1002);
    }

    private static void faultsOfWords() {
        read("sums 0 1", -1000);
        read("su 0 1", -1000);
        read("su", -1000);
        read("sum", -1003);
        read("sum0", -1003);
        read("sum ", -1004);
        read("sum  0 1", -1004);
        read("sum x", -1004);
        read("sum -1 0", -1004);
        read("sum 0", -1005);
        read("sum 00", -1005);
        read("sum 0 ", -1006);
        read("sum 0 -1", -1006);
        read("sum 0 12", -1007);
        read("sum 0 1 ", -1007);
        read("Sum 0 1", -1000);
        read("sumX", -1003);
        read("=x;ma", -1003);
        read("=x;derive 0 0", -1011);
        read("=x;shift 0 --1", -1012);
        read("=x;shift 0 -", -1012);
        read("=x;shift 0 10", -1012);
        read("=x;derive -0", -1010);
        read("=x;part 0", -1009);
        read("=x;part 0 -", -1011);
        read("=x;less 0 0;=x+", -1015);
        read("=x;derive 0;deriv 0", -1012);
    }

    private static void faultsOfWhatBringsNone() {
        read("sum 0 0", -2000);
        read("=x;sum 0 1", -2003);
        read("=x;less 0 0;=1", -2003);
        read("=x^3;product 0 0", -2005);
        read("=x;part 0 0", -2003);
        read("=x;part 0 5", -2003);
        read("=x;part 0 -1", -2003);
        read("=1;=1;=1;=1;=1;=1;=1;=1;=1", -2024);
        read("=999;sum 0 0", -2005);
        RootFence x = Checks.with("x", "x", "x", "x", "x", "x", "x", "x");
        String before = Checks.state(x);
        CHECKS.due("reads with eight there", Checks.read(x, "=x"), -2000);
        CHECKS.due("a fault goes ahead", Checks.read(x, "=x;=y"), -1004);
        x.drop();
        CHECKS.due("one too many", Checks.read(x, "sum 0 0;=x"), -2008);
        CHECKS.due("none came", x.count(0), 7);
        CHECKS.due("one", Checks.read(x, "=x"), 1);
        CHECKS.due("state", Checks.state(x), before);
    }

    private static void prints() {
        RootFence x = Checks.with("1", "-1", "x", "-x", "-x^4-x^3-x^2-x-1", "-999x^4-999x^3-999x^2-999x-999", "10x^3+100");
        String[] want = {"1", "-1", "x", "-x", "-x^4-x^3-x^2-x-1", "-999x^4-999x^3-999x^2-999x-999", "10x^3+100"};
        for (int p = 0; p < 7; p++) {
            CHECKS.due("prints(" + p + ")", x.prints(p), want[p].length());
            CHECKS.due("count(2)", x.count(2), want[p].length());
            CHECKS.due("printed " + p, Checks.printed(x, p), want[p]);
        }
        CHECKS.due("prints(7)", x.prints(7), Checks.BAD);
        CHECKS.due("prints(-1)", x.prints(-1), Checks.BAD);
        CHECKS.due("the paper stays", x.count(2), 9);
    }

    private static void paper() {
        RootFence x = Checks.with("12x^2-3", "x");
        CHECKS.due("nothing printed", x.paper(0), Checks.NOT);
        CHECKS.due("below 0", x.paper(-1), Checks.BAD);
        x.prints(0);
        CHECKS.due("paper(0)", x.paper(0), '1');
        CHECKS.due("paper(6)", x.paper(6), '3');
        CHECKS.due("paper(7)", x.paper(7), Checks.NOT);
        x.prints(1);
        CHECKS.due("paper(0)", x.paper(0), 'x');
        CHECKS.due("paper(1)", x.paper(1), Checks.NOT);
        CHECKS.due("paper(max)", x.paper(Integer.MAX_VALUE), Checks.NOT);
        CHECKS.due("paper(min)", x.paper(Integer.MIN_VALUE), Checks.BAD);
        x.drop();
        CHECKS.due("it stays when the polynomial goes", x.paper(0), 'x');
    }
}
