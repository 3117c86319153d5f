/** 'Terms', 2 MAKING: each sentence that names an edge has a test of its own. */
public final class TermsMakingTest {
    private static final Checks CHECKS = new Checks("TermsMakingTest");

    public static void main(String[] args) {
        twelve();
        figuresForK();
        allZero();
        degreeAboveFour();
        sumsAbove999();
        productsAbove999();
        othersAbove999();
        takenTogether();
        reverse();
        whatComesIsKeptAsItIs();
        CHECKS.end();
    }

    private static void made(int what, int j, String want, String... polys) {
        CHECKS.due("make(" + what + ", 0, " + j + ") of " + String.join(" and ", polys), Checks.made(what, j, polys), want);
    }

    private static void twelve() {
        CHECKS.sentence("MAKING: 0 sum .. 11 part");
        String p = "2x^2+3x+1";
        String q = "x^2-1";
        made(0, 1, "3x^2+3x", p, q);
        made(1, 1, "2x^4+3x^3-x^2-3x-1", p, q);
        made(2, 1, "x^2+3x+2", p, q);
        made(3, 1, "x+1", p, q);
        made(4, 1, "4x+3", p, q);
        made(5, 1, "2x^2-3x+1", p, q);
        made(6, 1, "2x^2+7x+6", p, q);
        made(7, 2, "8x^2+6x+1", p, q);
        made(8, 1, "x^2+3x+2", p, q);
        made(9, 1, "2x^2+3x+1", p, q);
        made(10, 1, "x+1", p, q);
        made(11, 1, "2x^2+3x+1", p, q);
        RootFence x = Checks.with(p, q);
        CHECKS.refused(x, "make(-1, 0, 1)", () -> x.make(-1, 0, 1), Checks.BAD);
        CHECKS.refused(x, "make(12, 0, 1)", () -> x.make(12, 0, 1), Checks.BAD);
        CHECKS.refused(x, "make(min, 0, 1)", () -> x.make(Integer.MIN_VALUE, 0, 1), Checks.BAD);
        CHECKS.refused(x, "make(max, 0, 1)", () -> x.make(Integer.MAX_VALUE, 0, 1), Checks.BAD);
    }

    private static void figuresForK() {
        CHECKS.sentence("k (-9 .. 9)");
        made(6, 9, "x+9", "x");
        made(6, -9, "x-9", "x");
        made(6, 0, "x", "x");
        made(6, 10, "answer -1", "x");
        made(6, -10, "answer -1", "x");
        made(7, 9, "9x", "x");
        made(7, -9, "-9x", "x");
        made(7, 10, "answer -1", "x");
        made(7, -10, "answer -1", "x");
        made(6, Integer.MIN_VALUE, "answer -1", "x");
        made(7, Integer.MAX_VALUE, "answer -1", "x");
        made(6, -2, "x^4-8x^3+24x^2-32x+16", "x^4");
        made(6, 3, "x^3+9x^2+27x+27", "x^3");
        made(7, -2, "16x^4-8x^3+4x^2-2x+1", "x^4+x^3+x^2+x+1");
        CHECKS.sentence("PART k of i; k 1 .. 4");
        made(11, 1, "x", "x");
        made(11, 4, "1", "x");
        made(11, 0, "answer -1", "x");
        made(11, 5, "answer -1", "x");
        made(11, -1, "answer -1", "x");
        made(11, Integer.MIN_VALUE, "answer -1", "x");
    }

    private static void allZero() {
        CHECKS.sentence("What would be all 0: NOT");
        made(0, 1, "answer -2", "x^2-7", "-x^2+7");
        made(2, 0, "answer -2", "x^2-7");
        made(2, 1, "answer -2", "x^2-7", "x^2-7");
        made(4, 0, "answer -2", "-7");
        made(7, 0, "answer -2", "x^4-x");
        made(7, 0, "1", "x^4-x+1");
        made(10, 1, "answer -2", "x^2-1", "x-1");
        made(10, 0, "answer -2", "x^2-1");
        made(10, 1, "answer -2", "x^2-1", "999");
        RootFence x = Checks.with("x");
        CHECKS.refused(x, "less of itself", () -> x.make(2, 0, 0), Checks.NOT);
    }

    private static void degreeAboveFour() {
        CHECKS.sentence("of a DEGREE above 4: FULL");
        made(1, 1, "x^4", "x^3", "x");
        made(1, 1, "x^4", "x^2", "x^2");
        made(1, 1, "-7x^4", "x^4", "-7");
        made(1, 1, "answer -3", "x^3", "x^2");
        made(1, 1, "answer -3", "x^4", "x");
        made(1, 0, "answer -3", "x^3");
        made(1, 0, "answer -3", "999x^4");
        RootFence x = Checks.with("x^3");
        CHECKS.refused(x, "product with itself", () -> x.make(1, 0, 0), Checks.FULL);
        CHECKS.due("poly behind it", x.poly(1, 2, 3, 4, 5), 1);
        CHECKS.due("lots behind it", x.lots(1, 1, 1, 1), 1);
        CHECKS.due("make behind it", x.make(0, 0, 1), 2);
        CHECKS.due("made", Checks.printed(x, 2), "5x^4+5x^3+3x^2+2x+1");
    }

    private static void sumsAbove999() {
        CHECKS.sentence("with a NUMBER above 999 without sign: FULL (sum, less)");
        for (String power : new String[] {"", "x", "x^2", "x^3", "x^4"}) {
            made(0, 1, "999" + power, "998" + power, power.isEmpty() ? "1" : power);
            made(0, 1, "answer -3", "999" + power, power.isEmpty() ? "1" : power);
            made(0, 1, "answer -3", "-999" + power, power.isEmpty() ? "-1" : "-" + power);
            made(2, 1, "999" + power, "998" + power, power.isEmpty() ? "-1" : "-" + power);
            made(2, 1, "-999" + power, "-998" + power, power.isEmpty() ? "1" : power);
            made(2, 1, "answer -3", "-999" + power, power.isEmpty() ? "1" : power);
            made(2, 1, "answer -3", "999" + power, power.isEmpty() ? "-1" : "-" + power);
        }
        made(0, 0, "answer -3", "500x+500");
        made(0, 0, "998x+998", "499x+499");
        made(0, 0, "answer -3", "500");
    }

    private static void productsAbove999() {
        CHECKS.sentence("with a NUMBER above 999 without sign: FULL (product)");
        made(1, 1, "999", "37", "27");
        made(1, 1, "-999x", "-37", "27x");
        made(1, 1, "answer -3", "40", "25");
        made(1, 1, "answer -3", "40x", "-25x^3");
        made(1, 1, "answer -3", "999x^4", "999");
        made(1, 1, "25x^2+999x+974", "x+1", "25x+974");
        made(1, 1, "answer -3", "x+1", "26x+974");
    }

    private static void othersAbove999() {
        CHECKS.sentence("with a NUMBER above 999 without sign: FULL (derive)");
        made(4, 0, "996x^3", "249x^4");
        made(4, 0, "answer -3", "250x^4");
        made(4, 0, "999x^2", "333x^3");
        made(4, 0, "answer -3", "-334x^3");
        made(4, 0, "998x", "499x^2");
        made(4, 0, "answer -3", "500x^2");
        made(4, 0, "-999", "-999x");
        CHECKS.sentence("with a NUMBER above 999 without sign: FULL (shift)");
        made(6, 1, "x+999", "x+998");
        made(6, 1, "answer -3", "x+999");
        made(6, -1, "x-999", "x-998");
        made(6, -1, "answer -3", "x-999");
        made(6, 9, "111x+999", "111x");
        made(6, 9, "answer -3", "112x");
        made(6, 5, "x^4+20x^3+150x^2+500x+625", "x^4");
        made(6, 6, "answer -3", "x^4");
        CHECKS.sentence("with a NUMBER above 999 without sign: FULL (stretch)");
        made(7, 9, "999x", "111x");
        made(7, 9, "answer -3", "112x");
        made(7, -9, "answer -3", "-112x");
        made(7, 5, "625x^4", "x^4");
        made(7, 6, "answer -3", "x^4");
        made(7, -9, "-729x^3", "x^3");
        made(7, 1, "999x^4-999x^3+999x^2-999x+999", "999x^4-999x^3+999x^2-999x+999");
        made(7, -1, "999x^4+999x^3+999x^2+999x+999", "999x^4-999x^3+999x^2-999x+999");
        CHECKS.sentence("with a NUMBER above 999 without sign: FULL (rest)");
        made(10, 1, "x+999", "2x^2+x-1", "x^2-500");
        made(10, 1, "answer -3", "2x^2+x", "x^2-500");
        made(10, 1, "-x-999", "-2x^2-x+1", "x^2-500");
        made(10, 1, "answer -3", "-2x^2-x", "x^2-500");
        made(10, 1, "x+500", "2x^2+2x", "x^2-500");
    }

    private static void takenTogether() {
        CHECKS.sentence("MAKING of i and j: one and the same, too");
        made(0, 0, "2x-2", "x-1");
        made(1, 0, "x^2-2x+1", "x-1");
        made(3, 0, "x-1", "-2x+2");
        made(10, 0, "answer -2", "x-1");
        RootFence x = Checks.with("x", "x-1", "x-2");
        CHECKS.due("less, i less j", x.make(2, 2, 1), 3);
        CHECKS.due("less, i less j", Checks.printed(x, 3), "-1");
        CHECKS.due("rest, i by j", x.make(10, 1, 2), 4);
        CHECKS.due("rest, i by j", Checks.printed(x, 4), "1");
        CHECKS.due("what was made of stays", Checks.state(x), "0,1,0,0,0, -1,1,0,0,0, -2,1,0,0,0, -1,0,0,0,0, 1,0,0,0,0, 0/1");
    }

    private static void reverse() {
        CHECKS.sentence("8 reverse (i's NUMBERS the other way about, DEGREE's first)");
        made(8, 0, "5x^4-4x^3+3x^2-2x+1", "x^4-2x^3+3x^2-4x+5");
        made(8, 0, "x^2+2", "2x^3+x");
        made(8, 0, "1", "x^4");
        made(8, 0, "-7", "-7");
        made(8, 0, "-x+1", "x-1");
        made(8, 0, "x^4+1", "x^4+1");
    }

    private static void whatComesIsKeptAsItIs() {
        CHECKS.sentence("MAKING: only common, free, rest and part are CLEANED");
        made(0, 1, "6x^2+6", "4x^2+4", "2x^2+2");
        made(1, 1, "-6x+6", "3x-3", "-2");
        made(2, 1, "-6x", "2x", "8x");
        made(4, 0, "4x+4", "2x^2+4x+1");
        made(5, 0, "-2x+4", "2x+4");
        made(6, 1, "2x+6", "2x+4");
        made(7, 2, "4x+4", "2x+4");
        made(8, 0, "4x+2", "2x+4");
        made(3, 1, "x+2", "2x+4", "-3x-6");
        made(9, 0, "x+2", "-2x-4");
        made(10, 1, "-x-2", "-2x-4", "x^2");
        made(11, 1, "x+2", "-2x-4");
    }
}
