/** Promises 1 to 7: a new object, poly, make, drop, number, of, value. */
public final class PolynomialsTest {
    private static final Checks CHECKS = new Checks("PolynomialsTest");

    public static void main(String[] args) {
        newObject();
        poly();
        makeOrdinary();
        makeBeyond();
        makeWrong();
        makeFull();
        drop();
        number();
        of();
        value();
        CHECKS.end();
    }

    private static void newObject() {
        RootFence x = new RootFence();
        CHECKS.due("new count(0)", x.count(0), 0);
        CHECKS.due("new count(1)", x.count(1), 0);
        CHECKS.due("new count(2)", x.count(2), 0);
        CHECKS.due("new drop()", x.drop(), Checks.STATE);
        CHECKS.due("new back()", x.back(), Checks.STATE);
        CHECKS.due("new roots(0)", x.roots(0), Checks.BAD);
        CHECKS.due("new paper(0)", x.paper(0), Checks.NOT);
        for (int list = 0; list < 4; list++) {
            CHECKS.due("new set", x.set(list, 0, 1), Checks.NOTHING);
            CHECKS.due("new get", x.get(list, 0), Checks.NO);
        }
        CHECKS.due("STATE", RootFence.STATE, Checks.STATE);
        CHECKS.due("NO", RootFence.NO, Long.MIN_VALUE);
    }

    private static void poly() {
        RootFence x = new RootFence();
        CHECKS.due("poly 0", x.poly(-999, 999, 0, 0, 0), 0);
        CHECKS.due("poly 1", x.poly(1, 2, 3, 4, -999), 1);
        CHECKS.due("poly all 0", x.poly(0, 0, 0, 0, 0), Checks.NOT);
        CHECKS.due("poly c0", x.poly(1000, 0, 0, 0, 0), Checks.BAD);
        CHECKS.due("poly c1", x.poly(0, -1000, 0, 0, 0), Checks.BAD);
        CHECKS.due("poly c2", x.poly(0, 0, Integer.MIN_VALUE, 0, 0), Checks.BAD);
        CHECKS.due("poly c3", x.poly(0, 0, 0, Integer.MAX_VALUE, 0), Checks.BAD);
        CHECKS.due("poly c4", x.poly(1, 0, 0, 0, 1000), Checks.BAD);
        CHECKS.due("state", Checks.state(x), "-999,999,0,0,0, 1,2,3,4,-999, 0/0");
        for (int i = 2; i < 8; i++) {
            CHECKS.due("poly " + i, x.poly(i, 0, 0, 0, 0), i);
        }
        CHECKS.due("poly ninth", x.poly(1, 0, 0, 0, 0), Checks.FULL);
        CHECKS.due("poly ninth, all 0", x.poly(0, 0, 0, 0, 0), Checks.FULL);
        CHECKS.due("poly ninth, bad", x.poly(0, 0, 0, 0, 1000), Checks.BAD);
    }

    private static void making(String want, int what, int j, String... polys) {
        RootFence x = Checks.with(polys);
        int came = x.make(what, 0, j);
        String name = "make(" + what + ", 0, " + j + ") of " + String.join(" and ", polys);
        CHECKS.due(name, came, polys.length);
        CHECKS.due(name, Checks.printed(x, came), want);
    }

    private static void makeOrdinary() {
        making("4x^2+2x-2", 0, 1, "x^2+x-1", "3x^2+x-1");
        making("2x^3-3x^2+x", 1, 1, "2x-1", "x^2-x");
        making("-2x^2+2", 2, 1, "x^2-1", "3x^2-3");
        making("x-1", 3, 1, "2x^2-2", "-3x+3");
        making("1", 3, 1, "6", "-9");
        making("4x^3-12x", 4, 0, "x^4-6x^2+7");
        making("x^4-2x^3+3x^2-4x+5", 5, 0, "x^4+2x^3+3x^2+4x+5");
        making("x^4+8x^3+24x^2+32x+16", 6, 2, "x^4");
        making("x^2-6x+8", 6, -3, "x^2-1");
        making("81x^4-27x^3+9x^2-3x+1", 7, -3, "x^4+x^3+x^2+x+1");
        making("5", 7, 0, "x^3+5");
        making("5x^2+4x+3", 8, 0, "3x^2+4x+5");
        making("1", 8, 0, "x^4");
        making("x^2-3x+2", 9, 0, "-2x^3+8x^2-10x+4");
        making("1", 9, 0, "-7");
        making("-7x+6", 10, 1, "x^3-7x+6", "x^2");
        making("x+2", 10, 1, "3x+6", "x^2");
        making("-1", 10, 1, "x^2-2", "-x+1");
        making("x-3", 11, 1, "x^3-5x^2+7x-3");
        making("x-1", 11, 2, "-2x^3+10x^2-14x+6");
        making("1", 11, 3, "x^3-5x^2+7x-3");
        making("x+1", 11, 4, "x^4+4x^3+6x^2+4x+1");
        making("1", 11, 1, "-5");
    }

    private static void makeBeyond() {
        RootFence x = Checks.with("999x^4+500", "x", "7", "500x^4", "-500x^4-500");
        CHECKS.due("sum above 999", x.make(0, 0, 3), Checks.FULL);
        CHECKS.due("sum all 0", x.make(0, 3, 4), 5);
        CHECKS.due("sum", Checks.printed(x, 5), "-500");
        CHECKS.due("product of degree 5", x.make(1, 0, 1), Checks.FULL);
        CHECKS.due("product of degree 8", x.make(1, 0, 0), Checks.FULL);
        CHECKS.due("product above 999", x.make(1, 0, 2), Checks.FULL);
        CHECKS.due("less all 0", x.make(2, 0, 0), Checks.NOT);
        CHECKS.due("derive all 0", x.make(4, 2, 0), Checks.NOT);
        CHECKS.due("derive above 999", x.make(4, 0, 0), Checks.FULL);
        CHECKS.due("stretch all 0", x.make(7, 1, 0), Checks.NOT);
        CHECKS.due("stretch above 999", x.make(7, 0, 2), Checks.FULL);
        CHECKS.due("rest all 0", x.make(10, 0, 2), Checks.NOT);
        CHECKS.due("shift above 999", x.make(6, 3, 1), Checks.FULL);
        CHECKS.due("count", x.count(0), 6);
        RootFence wide = Checks.with("997x^2+991x+1", "x-999", "997x^4-991x^3+983x^2+977x-971", "x^3+x-1");
        CHECKS.due("rest above 999", wide.make(10, 0, 1), 4);
        CHECKS.due("rest", Checks.printed(wide, 4), "1");
        CHECKS.due("rest of a number above 1000000", wide.make(10, 2, 1), Checks.FULL);
        CHECKS.due("free of a number above 1000000", wide.make(9, 2, 0), Checks.FULL);
        CHECKS.due("part of a number above 1000000", wide.make(11, 2, 1), Checks.FULL);
        CHECKS.due("common of a number above 1000000", wide.make(3, 2, 0), Checks.FULL);
        CHECKS.due("count", wide.count(0), 5);
        RootFence edge = Checks.with("7x^2+997x+1", "999x-571", "-7x^2-997x-1", "4x^2+999x+1", "999x-500", "-4x^2-999x-1");
        CHECKS.due("rest by way of 1000000", edge.make(10, 0, 1), 6);
        CHECKS.due("rest by way of -1000000", edge.make(10, 2, 1), 7);
        CHECKS.due("rest", edge.number(7, 0), -1);
        edge.drop();
        CHECKS.due("rest by way of 1000001", edge.make(10, 3, 4), Checks.FULL);
        CHECKS.due("rest by way of -1000001", edge.make(10, 5, 4), Checks.FULL);
    }

    private static void makeWrong() {
        RootFence x = Checks.with("x", "x-1");
        CHECKS.due("what -1", x.make(-1, 0, 0), Checks.BAD);
        CHECKS.due("what 12", x.make(12, 0, 0), Checks.BAD);
        for (int what = 0; what < 12; what++) {
            CHECKS.due("no i below, " + what, x.make(what, -1, 1), Checks.BAD);
            CHECKS.due("no i, " + what, x.make(what, 2, 1), Checks.BAD);
        }
        for (int what : new int[] {0, 1, 2, 3, 10}) {
            CHECKS.due("no j, " + what, x.make(what, 0, 2), Checks.BAD);
            CHECKS.due("no j below, " + what, x.make(what, 0, -1), Checks.BAD);
        }
        for (int what : new int[] {6, 7}) {
            CHECKS.due("k 10, " + what, x.make(what, 0, 10), Checks.BAD);
            CHECKS.due("k -10, " + what, x.make(what, 0, -10), Checks.BAD);
        }
        CHECKS.due("part 0", x.make(11, 0, 0), Checks.BAD);
        CHECKS.due("part 5", x.make(11, 0, 5), Checks.BAD);
        CHECKS.due("part -1", x.make(11, 0, -1), Checks.BAD);
        CHECKS.due("state", Checks.state(x), "0,1,0,0,0, -1,1,0,0,0, 0/0");
        for (int what : new int[] {4, 5, 8, 9}) {
            CHECKS.due("j isn't looked at, " + what, x.make(what, 0, 99), x.count(0) - 1);
        }
        CHECKS.due("shift 9", x.make(6, 0, 9), 6);
        CHECKS.due("shift -9", x.make(6, 0, -9), 7);
        CHECKS.due("shifted", Checks.printed(x, 7), "x-9");
    }

    private static void makeFull() {
        RootFence x = Checks.with("x", "x", "x", "x", "x", "x", "x", "x");
        CHECKS.due("make with eight", x.make(0, 0, 1), Checks.FULL);
        CHECKS.due("make of nothing with eight", x.make(2, 0, 0), Checks.FULL);
        CHECKS.due("make with a bad j and eight", x.make(0, 0, 8), Checks.BAD);
        CHECKS.due("make with a bad k and eight", x.make(6, 0, 10), Checks.BAD);
        CHECKS.due("drop", x.drop(), 7);
        CHECKS.due("make of nothing with seven", x.make(2, 0, 0), Checks.NOT);
        CHECKS.due("make with seven", x.make(0, 0, 1), 7);
        CHECKS.due("made", Checks.printed(x, 7), "2x");
    }

    private static void drop() {
        RootFence x = Checks.with("x", "x-1");
        CHECKS.due("drop", x.drop(), 1);
        CHECKS.due("number of what went", x.number(1, 0), Checks.NO);
        CHECKS.due("drop", x.drop(), 0);
        CHECKS.due("drop", x.drop(), Checks.STATE);
        CHECKS.due("poly after drops", x.poly(0, 0, 5, 0, 0), 0);
        CHECKS.due("its number", x.number(0, 1), 0);
    }

    private static void number() {
        RootFence x = new RootFence();
        x.poly(-999, 2, 0, 4, 999);
        long[] want = {-999, 2, 0, 4, 999};
        for (int power = 0; power < 5; power++) {
            CHECKS.due("number(0, " + power + ")", x.number(0, power), want[power]);
        }
        CHECKS.due("number(0, 5)", x.number(0, 5), Checks.NO);
        CHECKS.due("number(0, -1)", x.number(0, -1), Checks.NO);
        CHECKS.due("number(1, 0)", x.number(1, 0), Checks.NO);
        CHECKS.due("number(-1, 0)", x.number(-1, 0), Checks.NO);
        CHECKS.due("number(max, max)", x.number(Integer.MAX_VALUE, Integer.MAX_VALUE), Checks.NO);
    }

    private static void of() {
        RootFence x = Checks.with("x^4-3x^2+1", "7", "-x^3", "x^4-3x^2+1", "2x^4-6x^2+2", "x^4-3x^2+1");
        int[] degrees = {4, 0, 3, 4, 4, 4};
        int[] turns = {2, 0, 0, 2, 2, 2};
        int[] alike = {3, 1, 1, 3, 1, 3};
        for (int p = 0; p < 6; p++) {
            CHECKS.due("of(" + p + ", 0)", x.of(p, 0), degrees[p]);
            CHECKS.due("of(" + p + ", 1)", x.of(p, 1), turns[p]);
            CHECKS.due("of(" + p + ", 2)", x.of(p, 2), alike[p]);
        }
        CHECKS.due("of(0, 3)", x.of(0, 3), Checks.BAD);
        CHECKS.due("of(0, -1)", x.of(0, -1), Checks.BAD);
        CHECKS.due("of(6, 0)", x.of(6, 0), Checks.BAD);
        CHECKS.due("of(-1, 2)", x.of(-1, 2), Checks.BAD);
        x.drop();
        CHECKS.due("of(0, 2) after drop", x.of(0, 2), 2);
    }

    private static void value() {
        RootFence x = Checks.with("x^3-6x^2+11x-6", "7", "999x^4+999x^3+999x^2+999x+999");
        CHECKS.due("value at 1/2", x.value(0, 1, 2), -15);
        CHECKS.due("value at 2/4", x.value(0, 2, 4), -120);
        CHECKS.due("value at -1", x.value(0, -1, 1), -24);
        CHECKS.due("value at 0/1000", x.value(0, 0, 1000), -6000000000L);
        CHECKS.due("value of a number", x.value(1, 999, 1000), 7);
        CHECKS.due("value at 1000/1000", x.value(2, 1000, 1000), 4995000000000000L);
        CHECKS.due("value at -1000/1", x.value(2, -1000, 1), 999L * 999000999001L + 0);
        CHECKS.due("v 0", x.value(0, 1, 0), Checks.NO);
        CHECKS.due("v -1", x.value(0, 1, -1), Checks.NO);
        CHECKS.due("v 1001", x.value(0, 1, 1001), Checks.NO);
        CHECKS.due("u 1001", x.value(0, 1001, 1), Checks.NO);
        CHECKS.due("u -1001", x.value(0, -1001, 1), Checks.NO);
        CHECKS.due("u min", x.value(0, Integer.MIN_VALUE, 1), Checks.NO);
        CHECKS.due("p 3", x.value(3, 1, 1), Checks.NO);
        CHECKS.due("p -1", x.value(-1, 1, 1), Checks.NO);
    }
}
