import java.math.BigInteger;
import java.util.ArrayList;
import java.util.Arrays;
import java.util.Collections;
import java.util.List;

/**
 * The document's terms once more, word by word and without a thought of speed,
 * with numbers that can't overflow: ModelTest holds the class against it.
 */
final class Model {
    static final class Full extends RuntimeException {
        private static final long serialVersionUID = 1L;
    }

    private static final BigInteger MOST = BigInteger.valueOf(1000000);

    private Model() {
    }

    static List<BigInteger> poly(long... numbers) {
        List<BigInteger> p = new ArrayList<>();
        for (long number : numbers) {
            p.add(BigInteger.valueOf(number));
        }
        return cut(p);
    }

    /** Without the 0s behind the head: the degree is the size less 1. */
    private static List<BigInteger> cut(List<BigInteger> p) {
        List<BigInteger> q = new ArrayList<>(p);
        while (!q.isEmpty() && q.get(q.size() - 1).signum() == 0) {
            q.remove(q.size() - 1);
        }
        return q;
    }

    static BigInteger at(List<BigInteger> p, int power) {
        return power < p.size() ? p.get(power) : BigInteger.ZERO;
    }

    static BigInteger head(List<BigInteger> p) {
        return p.get(p.size() - 1);
    }

    static int degree(List<BigInteger> p) {
        return p.size() - 1;
    }

    static List<BigInteger> cleaned(List<BigInteger> p) {
        BigInteger divisor = BigInteger.ZERO;
        for (BigInteger number : p) {
            divisor = divisor.gcd(number);
        }
        List<BigInteger> q = new ArrayList<>();
        for (BigInteger number : p) {
            BigInteger less = number.divide(divisor);
            if (less.abs().compareTo(MOST) > 0) {
                throw new Full();
            }
            q.add(less);
        }
        return cut(q);
    }

    static List<BigInteger> times(List<BigInteger> p, List<BigInteger> q) {
        BigInteger[] r = new BigInteger[p.size() + q.size()];
        Arrays.fill(r, BigInteger.ZERO);
        for (int i = 0; i < p.size(); i++) {
            for (int j = 0; j < q.size(); j++) {
                r[i + j] = r[i + j].add(p.get(i).multiply(q.get(j)));
            }
        }
        return cut(Arrays.asList(r));
    }

    static List<BigInteger> scaled(List<BigInteger> p, BigInteger factor, int up) {
        List<BigInteger> q = new ArrayList<>();
        for (int i = 0; i < up; i++) {
            q.add(BigInteger.ZERO);
        }
        for (BigInteger number : p) {
            q.add(number.multiply(factor));
        }
        return cut(q);
    }

    static List<BigInteger> plus(List<BigInteger> p, List<BigInteger> q) {
        List<BigInteger> r = new ArrayList<>();
        for (int i = 0; i < Math.max(p.size(), q.size()); i++) {
            r.add(at(p, i).add(at(q, i)));
        }
        return cut(r);
    }

    static List<BigInteger> minus(List<BigInteger> p) {
        return scaled(p, BigInteger.ONE.negate(), 0);
    }

    static List<BigInteger> derived(List<BigInteger> p) {
        List<BigInteger> q = new ArrayList<>();
        for (int i = 1; i < p.size(); i++) {
            q.add(p.get(i).multiply(BigInteger.valueOf(i)));
        }
        return cut(q);
    }

    /** Another one for x. */
    static List<BigInteger> put(List<BigInteger> p, List<BigInteger> q) {
        List<BigInteger> sum = poly();
        List<BigInteger> raised = poly(1);
        for (BigInteger number : p) {
            sum = plus(sum, scaled(raised, number, 0));
            raised = times(raised, q);
        }
        return sum;
    }

    static List<BigInteger> reversed(List<BigInteger> p) {
        List<BigInteger> turned = new ArrayList<>(p);
        Collections.reverse(turned);
        return cut(turned);
    }

    static List<BigInteger> remainder(List<BigInteger> p, List<BigInteger> q) {
        List<BigInteger> r = cleaned(p);
        while (!r.isEmpty() && degree(r) >= degree(q)) {
            BigInteger take = head(q).signum() < 0 ? head(r).negate() : head(r);
            List<BigInteger> less = scaled(q, take, degree(r) - degree(q));
            r = cleaned(plus(scaled(r, head(q).abs(), 0), minus(less)));
        }
        return r;
    }

    static List<BigInteger> headUp(List<BigInteger> p) {
        return head(p).signum() < 0 ? minus(p) : p;
    }

    static List<BigInteger> common(List<BigInteger> p, List<BigInteger> q) {
        List<BigInteger> a = cleaned(p);
        List<BigInteger> b = cleaned(q);
        while (!b.isEmpty()) {
            List<BigInteger> rest = remainder(a, b);
            a = b;
            b = rest;
        }
        return headUp(a);
    }

    /** The quotient; an IllegalStateException tells that it doesn't go up. */
    static List<BigInteger> quotient(List<BigInteger> p, List<BigInteger> q) {
        BigInteger[] up = new BigInteger[Math.max(1, p.size() - q.size() + 1)];
        Arrays.fill(up, BigInteger.ZERO);
        List<BigInteger> left = p;
        while (!left.isEmpty() && degree(left) >= degree(q)) {
            BigInteger[] one = head(left).divideAndRemainder(head(q));
            if (one[1].signum() != 0) {
                throw new IllegalStateException("it doesn't go up");
            }
            int by = degree(left) - degree(q);
            up[by] = one[0];
            left = plus(left, minus(scaled(q, one[0], by)));
        }
        if (!left.isEmpty()) {
            throw new IllegalStateException("it doesn't go up");
        }
        return cut(Arrays.asList(up));
    }

    static List<BigInteger> free(List<BigInteger> p) {
        List<BigInteger> c = cleaned(p);
        List<BigInteger> slope = derived(c);
        List<BigInteger> by = slope.isEmpty() ? poly(1) : common(c, slope);
        return headUp(cleaned(quotient(c, by)));
    }

    private static List<List<BigInteger>> extended(List<List<BigInteger>> chain) {
        while (true) {
            int n = chain.size();
            List<BigInteger> next = minus(remainder(chain.get(n - 2), chain.get(n - 1)));
            if (next.isEmpty()) {
                return chain;
            }
            chain.add(next);
        }
    }

    static List<List<BigInteger>> chain(List<BigInteger> p) {
        List<List<BigInteger>> chain = new ArrayList<>();
        chain.add(free(p));
        if (degree(chain.get(0)) == 0) {
            return chain;
        }
        chain.add(cleaned(derived(chain.get(0))));
        return extended(chain);
    }

    static int signAt(List<BigInteger> p, long u, long v) {
        return valueAt(p, u, v).signum();
    }

    /** The value at u by v times v to the degree. */
    static BigInteger valueAt(List<BigInteger> p, long u, long v) {
        BigInteger sum = BigInteger.ZERO;
        for (int i = 0; i < p.size(); i++) {
            BigInteger term = BigInteger.valueOf(u).pow(i).multiply(BigInteger.valueOf(v).pow(degree(p) - i));
            sum = sum.add(term.multiply(p.get(i)));
        }
        return sum;
    }

    static int turns(List<Integer> signs) {
        int many = 0;
        int last = 0;
        for (int sign : signs) {
            if (sign != 0) {
                many += last != 0 && last != sign ? 1 : 0;
                last = sign;
            }
        }
        return many;
    }

    static int changes(List<List<BigInteger>> chain, long u, long v) {
        List<Integer> signs = new ArrayList<>();
        for (List<BigInteger> member : chain) {
            signs.add(signAt(member, u, v));
        }
        return turns(signs);
    }

    /** side -1: BELOW ALL, 1: ABOVE ALL. */
    static int changesFar(List<List<BigInteger>> chain, int side) {
        List<Integer> signs = new ArrayList<>();
        for (List<BigInteger> member : chain) {
            boolean turned = side < 0 && degree(member) % 2 == 1;
            signs.add(turned ? -head(member).signum() : head(member).signum());
        }
        return turns(signs);
    }

    static int roots(List<BigInteger> p) {
        List<List<BigInteger>> chain = chain(p);
        return changesFar(chain, -1) - changesFar(chain, 1);
    }

    static int within(List<List<BigInteger>> chain, long[] fence) {
        return changes(chain, fence[0], fence[1]) - changes(chain, fence[2], fence[3]);
    }

    static int bound(List<List<BigInteger>> chain) {
        for (int m = 1; m <= 512; m *= 2) {
            if (changes(chain, -m, 1) == changesFar(chain, -1) && changes(chain, m, 1) == changesFar(chain, 1)) {
                return m;
            }
        }
        throw new Full();
    }

    private static long[] point(long u, long v) {
        long divisor = BigInteger.valueOf(u).gcd(BigInteger.valueOf(v)).longValue();
        long[] lowest = {u / divisor, v / divisor};
        if (Math.abs(lowest[0]) > 1000 || lowest[1] > 1000) {
            throw new Full();
        }
        return lowest;
    }

    static long[] fence(List<BigInteger> p, int k, int h) {
        List<List<BigInteger>> chain = chain(p);
        int m = bound(chain);
        long[] fence = {-m, 1, m, 1};
        int ahead = 0;
        while (true) {
            long width = fence[2] * fence[1] - fence[0] * fence[3];
            boolean wide = width << h > fence[1] * fence[3];
            if (within(chain, fence) == 1 && !wide) {
                return fence;
            }
            long[] middle = point(fence[0] * fence[3] + fence[2] * fence[1], 2 * fence[1] * fence[3]);
            long[] lower = {fence[0], fence[1], middle[0], middle[1]};
            long[] upper = {middle[0], middle[1], fence[2], fence[3]};
            int low = within(chain, lower);
            fence = k - ahead < low ? lower : upper;
            ahead += fence == upper ? low : 0;
        }
    }

    /** D0, D1, .. D5. */
    static List<List<BigInteger>> repeated(List<BigInteger> p) {
        List<List<BigInteger>> d = new ArrayList<>();
        d.add(headUp(cleaned(p)));
        while (d.size() < 7) {
            List<BigInteger> last = d.get(d.size() - 1);
            d.add(degree(last) == 0 ? poly(1) : common(last, derived(last)));
        }
        return d;
    }

    static int many(List<BigInteger> p, int k) {
        long[] fence = fence(p, k, 0);
        int many = 1;
        List<BigInteger> d = p;
        while (true) {
            d = common(d, derived(d));
            if (degree(d) == 0) {
                return many;
            }
            many += within(chain(d), fence) > 0 ? 1 : 0;
        }
    }

    static List<BigInteger> part(List<BigInteger> p, int m) {
        List<List<BigInteger>> d = repeated(p);
        List<BigInteger> e = cleaned(quotient(d.get(m - 1), d.get(m)));
        List<BigInteger> next = cleaned(quotient(d.get(m), d.get(m + 1)));
        return cleaned(quotient(e, next));
    }

    static int sign(List<BigInteger> p, int k, List<BigInteger> q) {
        if (within(chain(common(p, q)), fence(p, k, 0)) > 0) {
            return 0;
        }
        for (int h = 0; h <= 9; h++) {
            long[] fence = fence(p, k, h);
            if (within(chain(q), fence) == 0) {
                return signAt(q, fence[2], fence[3]);
            }
        }
        throw new Full();
    }

    static int signs(List<BigInteger> p, List<BigInteger> q) {
        List<List<BigInteger>> chain = new ArrayList<>();
        chain.add(free(p));
        List<BigInteger> second = remainder(cleaned(times(derived(chain.get(0)), q)), chain.get(0));
        if (second.isEmpty()) {
            return 0;
        }
        chain.add(second);
        extended(chain);
        return changesFar(chain, -1) - changesFar(chain, 1);
    }

    static int which(List<BigInteger> p, int i, List<BigInteger> q, int j) {
        List<List<BigInteger>> both = chain(common(p, q));
        long[] one = fence(p, i, 0);
        long[] other = fence(q, j, 0);
        if (within(both, one) > 0 && within(both, other) > 0
                && changes(both, one[2], one[3]) == changes(both, other[2], other[3])) {
            return 0;
        }
        for (int h = 0; h <= 9; h++) {
            one = fence(p, i, h);
            other = fence(q, j, h);
            if (one[2] * other[1] <= other[0] * one[3]) {
                return -1;
            }
            if (other[2] * one[1] <= one[0] * other[3]) {
                return 1;
            }
        }
        throw new Full();
    }

    /** All fractions looked through: u and v of each root, from the least on. */
    static List<long[]> fractions(List<BigInteger> p) {
        List<long[]> found = new ArrayList<>();
        for (int v = 1; v <= 999; v++) {
            if (head(p).intValue() % v != 0) {
                continue;
            }
            for (int u = -999; u <= 999; u++) {
                if (BigInteger.valueOf(u).gcd(BigInteger.valueOf(v)).intValue() == 1 && signAt(p, u, v) == 0) {
                    found.add(new long[] {u, v});
                }
            }
        }
        found.sort((a, b) -> Long.compare(a[0] * b[1], b[0] * a[1]));
        return found;
    }
}
