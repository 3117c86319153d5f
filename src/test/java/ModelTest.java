import java.math.BigInteger;
import java.util.ArrayList;
import java.util.List;
import java.util.Random;

/** Polynomials by lot, their answers held against Model's; where the roots are known, against these. */
public final class ModelTest {
    private static final Checks CHECKS = new Checks("ModelTest");
    private static final Random RANDOM = new Random(7);

    /** What a call of the model comes to: FULL is told by the exception. */
    private interface Told {
        long answer();
    }

    public static void main(String[] args) {
        int rounds = args.length > 0 ? Integer.parseInt(args[0]) : 250;
        for (int round = 0; round < rounds; round++) {
            one(round);
        }
        knownRoots(rounds);
        CHECKS.end();
    }

    private static long told(Told call, long full) {
        try {
            return call.answer();
        } catch (Model.Full e) {
            return full;
        }
    }

    private static List<BigInteger> factor(int degree, int most) {
        long[] numbers = new long[degree + 1];
        for (int i = 0; i <= degree; i++) {
            numbers[i] = RANDOM.nextInt(2 * most + 1) - most;
        }
        return Model.poly(numbers);
    }

    /** Products of small factors too: they have common and repeated roots. */
    private static List<BigInteger> byLot(List<List<BigInteger>> factors) {
        while (true) {
            int kind = RANDOM.nextInt(6);
            List<BigInteger> p = kind == 0 ? factor(4, 999) : factor(RANDOM.nextInt(5), kind == 1 ? 60 : 9);
            if (kind > 2) {
                p = Model.poly(1 + RANDOM.nextInt(3) - 2 * RANDOM.nextInt(2));
                for (int i = RANDOM.nextInt(4); i >= 0; i--) {
                    p = Model.times(p, factors.get(RANDOM.nextInt(factors.size())));
                }
            }
            if (fits(p)) {
                return p;
            }
        }
    }

    private static boolean fits(List<BigInteger> p) {
        if (p.isEmpty() || p.size() > 5) {
            return false;
        }
        for (BigInteger number : p) {
            if (number.abs().intValue() > 999) {
                return false;
            }
        }
        return true;
    }

    private static int add(RootFence x, List<BigInteger> p) {
        int[] c = new int[5];
        for (int i = 0; i < 5; i++) {
            c[i] = Model.at(p, i).intValue();
        }
        return x.poly(c[0], c[1], c[2], c[3], c[4]);
    }

    private static void one(int round) {
        List<List<BigInteger>> factors = new ArrayList<>();
        for (int i = 0; i < 3; i++) {
            factors.add(factor(1, 4));
        }
        factors.add(factor(2, 4));
        List<BigInteger> p = byLot(factors);
        List<BigInteger> q = byLot(factors);
        RootFence x = new RootFence();
        add(x, p);
        add(x, q);
        String name = "round " + round + " " + p + " " + q + ": ";
        counts(x, p, name);
        fences(x, p, name);
        makings(x, p, q, name);
        pairs(x, p, q, name);
        CHECKS.due(name + "count", x.count(0), 2);
    }

    private static void counts(RootFence x, List<BigInteger> p, String name) {
        CHECKS.due(name + "roots", x.roots(0), told(() -> Model.roots(p), Checks.FULL));
        CHECKS.due(name + "bound", x.bound(0), told(() -> Model.bound(Model.chain(p)), Checks.FULL));
        long members = told(() -> Model.chain(p).size(), Checks.NO);
        CHECKS.due(name + "chain", x.chain(0, -1, 0), members);
        for (int k = 0; k < members; k++) {
            for (int power = 0; power < 5; power++) {
                long number = Model.at(Model.chain(p).get(k), power).longValue();
                CHECKS.due(name + "chain " + k + " " + power, x.chain(0, k, power), number);
            }
        }
        for (int i = 0; i < 5; i++) {
            int u = RANDOM.nextInt(2001) - 1000;
            int v = RANDOM.nextInt(i < 3 ? 1000 : 5) + 1;
            int t = RANDOM.nextInt(2001) - 1000;
            int w = RANDOM.nextInt(i < 3 ? 1000 : 5) + 1;
            long at = told(() -> Model.changes(Model.chain(p), u, v), Checks.FULL);
            CHECKS.due(name + "changes " + u + " " + v, x.changes(0, u, v), at);
            long inside = told(() -> Model.within(Model.chain(p), new long[] {u, v, t, w}), Checks.FULL);
            boolean bad = u * w >= t * v;
            CHECKS.due(name + "within", x.within(0, u, v, t, w), bad ? Checks.BAD : inside);
        }
        List<long[]> fractions = Model.fractions(p);
        CHECKS.due(name + "fractions", x.fraction(0, -1, 0), fractions.size());
        for (int k = 0; k < fractions.size(); k++) {
            CHECKS.due(name + "fraction u " + k, x.fraction(0, k, 0), fractions.get(k)[0]);
            CHECKS.due(name + "fraction v " + k, x.fraction(0, k, 1), fractions.get(k)[1]);
        }
    }

    private static void fences(RootFence x, List<BigInteger> p, String name) {
        long roots = told(() -> Model.roots(p), 0);
        for (int root = 0; root < roots; root++) {
            int k = root;
            for (int height = 0; height < 10; height++) {
                int h = height;
                for (int w = 0; w < 4; w++) {
                    int what = w;
                    long due = told(() -> Model.fence(p, k, h)[what], Checks.NO);
                    CHECKS.due(name + "fence " + k + " " + h + " " + what, x.fence(0, k, h, what), due);
                }
            }
            CHECKS.due(name + "times " + k, x.times(0, k), told(() -> Model.many(p, k), Checks.FULL));
        }
        boolean full = told(() -> Model.roots(p), Checks.FULL) == Checks.FULL;
        CHECKS.due(name + "times of none", x.times(0, (int) roots), full ? Checks.FULL : Checks.BAD);
    }

    private static void making(RootFence x, int what, int j, List<BigInteger> due, String name) {
        long want = due == null ? Checks.FULL : due.isEmpty() ? Checks.NOT : fits(due) ? 2 : Checks.FULL;
        CHECKS.due(name + "make " + what + " " + j, x.make(what, 0, j), want);
        if (want == 2 && x.count(0) == 3) {
            for (int power = 0; power < 5; power++) {
                CHECKS.due(name + "make " + what + " " + j, x.number(2, power), Model.at(due, power).longValue());
            }
            x.drop();
        }
    }

    private interface Made {
        List<BigInteger> answer();
    }

    private static List<BigInteger> made(Made call) {
        try {
            return call.answer();
        } catch (Model.Full e) {
            return null;
        }
    }

    private static void makings(RootFence x, List<BigInteger> p, List<BigInteger> q, String name) {
        making(x, 0, 1, Model.plus(p, q), name);
        making(x, 1, 1, Model.times(p, q), name);
        making(x, 2, 1, Model.plus(p, Model.minus(q)), name);
        making(x, 3, 1, made(() -> Model.common(p, q)), name);
        making(x, 4, 1, Model.derived(p), name);
        making(x, 5, 1, Model.put(p, Model.poly(0, -1)), name);
        making(x, 9, 1, made(() -> Model.free(p)), name);
        making(x, 10, 1, made(() -> Model.remainder(p, q)), name);
        for (int m = 1; m <= 4; m++) {
            int of = m;
            making(x, 11, m, made(() -> Model.part(p, of)), name);
        }
        int k = RANDOM.nextInt(19) - 9;
        making(x, 6, k, Model.put(p, Model.poly(k, 1)), name);
        making(x, 7, k, Model.put(p, Model.poly(0, k)), name);
        making(x, 8, 1, Model.reversed(p), name);
    }

    private static void pairs(RootFence x, List<BigInteger> p, List<BigInteger> q, String name) {
        CHECKS.due(name + "shared", x.shared(0, 1), told(() -> Model.roots(Model.common(p, q)), Checks.FULL));
        CHECKS.due(name + "signs", x.signs(0, 1), told(() -> Model.signs(p, q), Checks.NO));
        long roots = told(() -> Model.roots(p), 0);
        long others = told(() -> Model.roots(q), 0);
        for (int root = 0; root < roots; root++) {
            int i = root;
            CHECKS.due(name + "sign " + i, x.sign(0, i, 1), told(() -> Model.sign(p, i, q), Checks.NO));
            for (int other = 0; other < others; other++) {
                int j = other;
                long due = told(() -> Model.which(p, i, q, j), Checks.NO);
                CHECKS.due(name + "which " + i + " " + j, x.which(0, i, 1, j), due);
            }
        }
    }

    /** Products of x - a and of x^2 + 1, their roots and how often each is one told ahead. */
    private static void knownRoots(int rounds) {
        for (int round = 0; round < rounds; round++) {
            int degree = RANDOM.nextInt(4) + 1;
            int[] roots = new int[degree];
            List<BigInteger> p = Model.poly(RANDOM.nextBoolean() ? 1 : -1);
            for (int i = 0; i < degree; i++) {
                roots[i] = RANDOM.nextInt(9) - 4;
                p = Model.times(p, Model.poly(-roots[i], 1));
            }
            if (degree < 3 && RANDOM.nextBoolean()) {
                p = Model.times(p, Model.poly(1, 0, 1));
            }
            RootFence x = new RootFence();
            if (add(x, p) == 0) {
                known(x, p, roots, "known " + p + ": ");
            }
        }
    }

    private static void known(RootFence x, List<BigInteger> p, int[] roots, String name) {
        int[] unlike = java.util.Arrays.stream(roots).sorted().distinct().toArray();
        CHECKS.due(name + "roots", x.roots(0), unlike.length);
        CHECKS.due(name + "fractions", x.fraction(0, -1, 0), unlike.length);
        x.poly(1, -1, 0, 0, 0);
        int sum = 0;
        for (int k = 0; k < unlike.length; k++) {
            int root = unlike[k];
            long many = java.util.Arrays.stream(roots).filter(r -> r == root).count();
            CHECKS.due(name + "times " + root, x.times(0, k), many);
            CHECKS.due(name + "fraction " + root, x.fraction(0, k, 0), root);
            CHECKS.due(name + "sign " + root, x.sign(0, k, 1), Integer.signum(1 - root));
            CHECKS.due(name + "which " + root, x.which(0, k, 1, 0), Integer.compare(root, 1));
            CHECKS.due(name + "end " + root, x.fence(0, k, 7, 2), root);
            sum += Integer.signum(1 - root);
        }
        int known = sum;
        long due = told(() -> Model.signs(p, Model.poly(1, -1)) * 0L + known, Checks.NO);
        CHECKS.due(name + "signs", x.signs(0, 1), due);
    }
}
