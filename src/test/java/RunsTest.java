import java.util.ArrayList;
import java.util.List;
import java.util.Random;

/**
 * Runs of calls in any order, the same ones asked of the class and of Whole,
 * each answer held against the other's; at the end all that the object keeps.
 */
public final class RunsTest {
    private static final Checks CHECKS = new Checks("RunsTest");
    private static final Random RANDOM = new Random(23);
    private static final int CALLS = 512;
    private static final String SIGNS = "0123456789x^+-=; abz";
    private static final String[] MAKINGS = {"sum", "product", "less", "common", "derive", "turn", "shift", "stretch",
        "reverse", "free", "rest", "part"};
    private static final int[] EDGES = {Integer.MIN_VALUE, -1001, -1000, -999, -10, -9, -1, 0, 1, 8, 9, 10, 24, 25, 127,
        128, 512, 999, 1000, 1001, Integer.MAX_VALUE - 3, Integer.MAX_VALUE};

    private final RootFence x = new RootFence();
    private final Whole whole = new Whole();
    private final List<String> asked = new ArrayList<>();
    private boolean agree = true;

    public static void main(String[] args) {
        int runs = args.length > 0 ? Integer.parseInt(args[0]) : 240;
        for (int run = 0; run < runs; run++) {
            new RunsTest().go(run);
        }
        CHECKS.end();
    }

    private void go(int run) {
        for (int i = RANDOM.nextInt(5); i >= 0; i--) {
            ask("poly", byLot());
        }
        int length = run % 8 == 0 ? CALLS : 20 + RANDOM.nextInt(140);
        while (agree && asked.size() < length) {
            any(RANDOM.nextInt(32));
        }
        for (int p = 0; p < 8; p++) {
            for (int power = 0; power < 5; power++) {
                ask("number", p, power);
            }
        }
        for (int list = 0; list < 4; list++) {
            for (int i = 0; i < 25; i++) {
                ask("get", list, i);
            }
        }
    }

    /** The same of both; behind the 512th call nothing is promised, and nothing asked. */
    private long ask(String call, int... numbers) {
        if (asked.size() >= CALLS || !agree) {
            return 0;
        }
        for (int i = 0; i < numbers.length; i++) {
            numbers[i] = RANDOM.nextInt(90) == 0 ? EDGES[RANDOM.nextInt(EDGES.length)] : numbers[i];
        }
        long want = Checks.call(whole, call, numbers);
        long got = Checks.call(x, call, numbers);
        StringBuilder text = new StringBuilder(call);
        for (int number : numbers) {
            text.append(' ').append(number);
        }
        asked.add(text.toString());
        CHECKS.due(text.toString(), got, want);
        agree = got == want;
        if (!agree) {
            System.out.println("the calls ahead: " + String.join(", ", asked));
        }
        return want;
    }

    private static int between(int least, int most) {
        return least + RANDOM.nextInt(most - least + 1);
    }

    /** Products of small factors, with roots that are common and repeated; some with any numbers. */
    private static int[] byLot() {
        long[] p = {between(1, 3) * (RANDOM.nextBoolean() ? 1 : -1), 0, 0, 0, 0};
        int degree = between(0, 4);
        for (int d = 0; d < degree; d++) {
            int root = between(-3, 3);
            int head = RANDOM.nextInt(4) == 0 ? between(2, 8) : 1;
            for (int i = 4; i >= 0; i--) {
                p[i] = p[i] * root + (i > 0 ? p[i - 1] * head : 0);
            }
        }
        int most = RANDOM.nextInt(3) == 0 ? 999 : 9;
        boolean any = RANDOM.nextInt(4) == 0;
        int[] numbers = new int[5];
        for (int i = 0; i < 5; i++) {
            boolean high = i > degree;
            numbers[i] = any ? (high ? 0 : between(-most, most)) : (int) Math.max(-999, Math.min(999, p[i]));
        }
        return numbers;
    }

    private static String textByLot() {
        Whole one = new Whole();
        int[] p = byLot();
        if (one.poly(p[0], p[1], p[2], p[3], p[4]) != 0) {
            return "1";
        }
        StringBuilder text = new StringBuilder();
        long length = one.prints(0);
        for (int i = 0; i < length; i++) {
            text.append((char) one.paper(i));
        }
        return text.toString();
    }

    /** Words, a third of them with a byte or two changed. */
    private static String words(int polys) {
        StringBuilder text = new StringBuilder();
        for (int i = RANDOM.nextInt(3); i >= 0; i--) {
            text.append(text.length() > 0 ? ";" : "");
            if (RANDOM.nextBoolean()) {
                text.append('=').append(textByLot());
            } else {
                int what = RANDOM.nextInt(12);
                text.append(MAKINGS[what]).append(' ').append(RANDOM.nextInt(polys + 1));
                boolean alone = what == 4 || what == 5 || what == 8 || what == 9;
                text.append(alone ? "" : " " + second(what, polys));
            }
        }
        for (int i = RANDOM.nextInt(3) == 0 ? between(1, 2) : 0; i > 0; i--) {
            int place = RANDOM.nextInt(text.length() + 1);
            int till = Math.min(text.length(), place + RANDOM.nextInt(2));
            int sign = RANDOM.nextInt(SIGNS.length());
            text.replace(place, till, RANDOM.nextInt(3) == 0 ? "" : SIGNS.substring(sign, sign + 1));
        }
        return text.toString();
    }

    private static int second(int what, int polys) {
        return what == 11 ? between(0, 5) : what == 6 || what == 7 ? between(-3, 3) : RANDOM.nextInt(polys + 1);
    }

    private void any(int kind) {
        int polys = Math.max(1, (int) whole.count(0));
        int p = RANDOM.nextInt(30) == 0 ? polys : RANDOM.nextInt(polys);
        int q = RANDOM.nextInt(30) == 0 ? polys : RANDOM.nextInt(polys);
        int k = RANDOM.nextInt(RANDOM.nextInt(3) == 0 ? 5 : 2);
        int wide = RANDOM.nextInt(5) == 0 ? 1000 : 12;
        int u = between(-wide, wide);
        int v = between(1, wide);
        int t = between(-wide, wide);
        int list = between(0, 3);
        switch (kind) {
            case 0: ask("poly", byLot()); break;
            case 1: case 2: case 3:
                int what = RANDOM.nextInt(12);
                ask("make", what, p, second(what, polys - 1));
                break;
            case 4: ask("drop"); break;
            case 5: ask("number", p, between(-1, 5)); break;
            case 6: ask("of", p, between(-1, 3)); break;
            case 7: ask("value", p, u, v); break;
            case 8: ask("chain", p, between(-2, 5), between(-1, 5)); break;
            case 9: ask("changes", p, u, v); break;
            case 10: ask("roots", p); break;
            case 11: ask("within", p, u, v, t, between(1, wide)); break;
            case 12: ask("bound", p); break;
            case 13: case 14: ask("fence", p, k, between(-1, RANDOM.nextInt(3) == 0 ? 10 : 4), between(-1, 4)); break;
            case 15: ask("times", p, k); break;
            case 16: ask("shared", p, q); break;
            case 17: ask("sign", p, k, q); break;
            case 18: ask("signs", p, q); break;
            case 19: case 20: ask("which", p, k, q, RANDOM.nextInt(3)); break;
            case 21: ask("fraction", p, between(-1, 3), between(-1, 2)); break;
            case 22: case 23: read(words(polys)); break;
            case 24: print(p); break;
            case 25: case 26: fencesInto(p, list); break;
            case 27: ask("lots", between(0, 13), between(0, 4), between(0, 10), RANDOM.nextInt()); break;
            case 28: rows(p, between(-1, 4)); break;
            case 29: ask("image"); break;
            case 30: ask("back"); break;
            default: ask("count", between(-1, 3)); break;
        }
    }

    private void read(String words) {
        for (int i = 0; i < words.length(); i++) {
            ask("feed", words.charAt(i));
        }
        if (RANDOM.nextInt(8) != 0) {
            ask("reads");
        }
    }

    private void print(int p) {
        long length = ask("prints", p);
        for (int i = -1; i <= length; i++) {
            ask("paper", i);
        }
    }

    private void rows(int p, int list) {
        switch (RANDOM.nextInt(4)) {
            case 0: ask("list", list, between(-1, 25)); break;
            case 1: ask("set", list, between(-1, 25), RANDOM.nextInt()); break;
            case 2: ask("get", list, between(-1, 25)); break;
            default: ask("into", p, list, between(-1, 25)); break;
        }
    }

    /** A list that tells the roots' fences, mostly rightly, and what is judged of it. */
    private void fencesInto(int p, int list) {
        int from = RANDOM.nextInt(3) == 0 ? between(0, 6) : 0;
        ask("list", list, RANDOM.nextInt(3) == 0 ? between(0, 24) : 24);
        for (int k = 0; k < whole.roots(p); k++) {
            int h = between(0, 3);
            int more = between(1, 2);
            for (int what = 0; what < 4; what++) {
                int number = (int) whole.fence(p, k, h, what) * (what < 2 ? more : 1);
                ask("set", list, from + 4 * k + what, number + (RANDOM.nextInt(20) == 0 ? between(-1, 1) : 0));
            }
        }
        ask("judge", p, list, from);
        ask("judge", p, between(0, 3), between(0, 24));
    }
}
