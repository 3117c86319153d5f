/**
 * Root fence: polynomials of whole numbers, their chains of remainders, the
 * fences about their roots. ../shared/DOC.md says what each call answers.
 */
public final class RootFence {
    public static final int BAD = -1, NOT = -2, FULL = -3, STATE = -6;
    public static final long NO = Long.MIN_VALUE;

    private static final int NOTHING = -11, BEYOND = -13, BELOW = -14, NONE_OTHERWISE = -5;
    private static final int LOOKED_AT = 100, BRINGS_NONE = -2000;
    private static final int TOP_POWER = 4, NUMBER_END = 999, POINT_END = 1000, FINEST = 9;

    private static final int SUM = 0, PRODUCT = 1, LESS = 2, COMMON = 3, DERIVE = 4, TURN = 5;
    private static final int SHIFT = 6, STRETCH = 7, REVERSE = 8, FREE = 9, REST = 10, PART = 11;
    private static final int MAKINGS = 12, TOLD = 12;

    private final Shelf shelf = new Shelf();
    private final Shelf kept = new Shelf();
    private boolean imaged = false;
    private final Poly work = new Poly();
    private final Common common = new Common();
    private final Parts parts = new Parts(common);
    private final Maker maker = new Maker(common, parts);
    private final Chain chain = new Chain(common);
    private final Chain second = new Chain(common);
    private final Chain third = new Chain(common);
    private final Fence fence = new Fence();
    private final Fence other = new Fence();
    private final Fractions fractions = new Fractions();
    private final Tape tape = new Tape();
    private final Paper paper = new Paper();
    private final Rows rows = new Rows();

    public RootFence() {
    }

    // ---- polynomials

    public int poly(int c0, int c1, int c2, int c3, int c4) {
        if (beyond(c0) || beyond(c1) || beyond(c2) || beyond(c3) || beyond(c4)) {
            return BAD;
        }
        work.clear();
        work.put(0, c0);
        work.put(1, c1);
        work.put(2, c2);
        work.put(3, c3);
        work.put(4, c4);
        return bring(work);
    }

    public int make(int what, int i, int j) {
        if (what < 0 || what >= MAKINGS) {
            return BAD;
        }
        Poly first = shelf.pick(i);
        if (first == null || badSecond(what, j)) {
            return BAD;
        }
        if (shelf.isFull()) {
            return FULL;
        }
        Poly with = needsSecondPoly(what) ? shelf.pick(j) : first;
        if (with == null) {
            return BAD;
        }
        if (!maker.form(what, first, with, j, work)) {
            return FULL;
        }
        return bring(work);
    }

    public int drop() {
        if (shelf.size() == 0) {
            return STATE;
        }
        shelf.shorten(shelf.size() - 1);
        return shelf.size();
    }

    public long number(int p, int power) {
        Poly poly = shelf.pick(p);
        if (poly == null || power < 0 || power > TOP_POWER) {
            return NO;
        }
        return poly.at(power);
    }

    public int of(int p, int what) {
        Poly poly = shelf.pick(p);
        if (poly == null) {
            return BAD;
        }
        switch (what) {
            case 0:
                return poly.degree();
            case 1:
                return poly.turns();
            case 2:
                return shelf.howManyLike(poly);
            default:
                return BAD;
        }
    }

    public long value(int p, int u, int v) {
        Poly poly = shelf.pick(p);
        if (poly == null || badPoint(u, v)) {
            return NO;
        }
        return poly.worth(u, v);
    }

    // ---- chains, counts

    public long chain(int p, int k, int power) {
        Poly poly = shelf.pick(p);
        if (poly == null || !chain.build(poly)) {
            return NO;
        }
        if (k == -1) {
            return chain.length();
        }
        Poly member = chain.member(k);
        if (member == null || power < 0 || power > TOP_POWER) {
            return NO;
        }
        return member.at(power);
    }

    public int changes(int p, int u, int v) {
        Poly poly = shelf.pick(p);
        if (poly == null || badPoint(u, v)) {
            return BAD;
        }
        return chain.build(poly) ? chain.turnsAt(u, v) : FULL;
    }

    public int roots(int p) {
        Poly poly = shelf.pick(p);
        if (poly == null) {
            return BAD;
        }
        return chain.build(poly) ? chain.total() : FULL;
    }

    public int within(int p, int u, int v, int t, int w) {
        Poly poly = shelf.pick(p);
        if (poly == null || badPoint(u, v) || badPoint(t, w) || u * w >= t * v) {
            return BAD;
        }
        return chain.build(poly) ? chain.turnsAt(u, v) - chain.turnsAt(t, w) : FULL;
    }

    public int bound(int p) {
        Poly poly = shelf.pick(p);
        if (poly == null) {
            return BAD;
        }
        int reach = chain.build(poly) ? chain.reach() : 0;
        return reach > 0 ? reach : FULL;
    }

    public long fence(int p, int k, int h, int what) {
        Poly poly = shelf.pick(p);
        if (poly == null || h < 0 || h > FINEST || !chain.build(poly)) {
            return NO;
        }
        if (!chain.hasRoot(k) || !fence.find(chain, k, h)) {
            return NO;
        }
        switch (what) {
            case 0:
                return fence.beginU();
            case 1:
                return fence.beginV();
            case 2:
                return fence.endU();
            case 3:
                return fence.endV();
            default:
                return NO;
        }
    }

    public int times(int p, int k) {
        Poly poly = shelf.pick(p);
        if (poly == null) {
            return BAD;
        }
        if (!chain.build(poly)) {
            return FULL;
        }
        if (!chain.hasRoot(k)) {
            return BAD;
        }
        if (!fence.find(chain, k, 0) || !parts.split(poly)) {
            return FULL;
        }
        int many = 1;
        for (int m = 1; m < Parts.ROWS; m++) {
            if (!second.build(parts.repeated(m))) {
                return FULL;
            }
            if (fence.holds(second) > 0) {
                many++;
            }
        }
        return many;
    }

    // ---- two polynomials

    public int shared(int p, int q) {
        Poly poly = shelf.pick(p);
        Poly with = shelf.pick(q);
        if (poly == null || with == null) {
            return BAD;
        }
        if (!common.find(poly, with) || !chain.build(common.result())) {
            return FULL;
        }
        return chain.total();
    }

    public long sign(int p, int k, int q) {
        Poly poly = shelf.pick(p);
        Poly with = shelf.pick(q);
        if (poly == null || with == null || !chain.build(poly)) {
            return NO;
        }
        if (!chain.hasRoot(k) || !fence.find(chain, k, 0)) {
            return NO;
        }
        if (!common.find(poly, with) || !second.build(common.result())) {
            return NO;
        }
        if (fence.holds(second) > 0) {
            return 0;
        }
        return second.build(with) ? signOutside(k, with) : NO;
    }

    public long signs(int p, int q) {
        Poly poly = shelf.pick(p);
        Poly with = shelf.pick(q);
        if (poly == null || with == null || !chain.buildSum(poly, with)) {
            return NO;
        }
        return chain.total();
    }

    public long which(int p, int i, int q, int j) {
        Poly poly = shelf.pick(p);
        Poly with = shelf.pick(q);
        if (poly == null || with == null || !chain.build(poly) || !second.build(with)) {
            return NO;
        }
        if (!chain.hasRoot(i) || !second.hasRoot(j)) {
            return NO;
        }
        if (!fence.find(chain, i, 0) || !other.find(second, j, 0)) {
            return NO;
        }
        if (!common.find(poly, with) || !third.build(common.result())) {
            return NO;
        }
        return alike() ? 0 : order(i, j);
    }

    public long fraction(int p, int k, int what) {
        Poly poly = shelf.pick(p);
        if (poly == null) {
            return NO;
        }
        fractions.find(poly);
        if (k == -1) {
            return fractions.size();
        }
        if (k < 0 || k >= fractions.size() || what < 0 || what > 1) {
            return NO;
        }
        return what == 0 ? fractions.over(k) : fractions.under(k);
    }

    // ---- texts

    public int feed(int letter) {
        if (letter < 1 || letter > 127) {
            return BAD;
        }
        return tape.take(letter) ? tape.length() : FULL;
    }

    public int reads() {
        int statements = tape.check();
        int before = shelf.size();
        int at = 0;
        int answer = statements;
        for (int n = 0; n < statements && answer == statements; n++) {
            int behind = tape.statement(at);
            int what = tape.what();
            int comes = what == TOLD ? bring(tape.told()) : make(what, tape.first(), tape.second());
            if (comes < 0) {
                answer = BRINGS_NONE - at;
                shelf.shorten(before);
            }
            at = behind + 1;
        }
        tape.clear();
        return answer;
    }

    public int prints(int p) {
        Poly poly = shelf.pick(p);
        if (poly == null) {
            return BAD;
        }
        paper.write(poly);
        return paper.length();
    }

    public int paper(int i) {
        if (i < 0) {
            return BAD;
        }
        return i < paper.length() ? paper.at(i) : NOT;
    }

    // ---- told, by lot, rows, the image

    public int judge(int p, int list, int q) {
        Poly poly = shelf.pick(p);
        if (poly == null || !rows.known(list) || q < 0) {
            return BAD;
        }
        int size = rows.size(list);
        if (size < 0) {
            return NOTHING;
        }
        if (!chain.build(poly)) {
            return FULL;
        }
        int total = chain.total();
        for (int k = 0; k < total; k++) {
            if (q > size - 4 * k - 4) {
                return LOOKED_AT + k;
            }
            if (!toldRightly(list, q + 4 * k, k)) {
                return k;
            }
        }
        return NONE_OTHERWISE;
    }

    public int lots(int n, int degree, int m, int z) {
        if (n < 1 || n > 12 || degree < 1 || degree > 3 || m < 1 || m > 9) {
            return BAD;
        }
        int seed = z;
        int many = 0;
        for (int drawn = 0; drawn < n; drawn++) {
            work.clear();
            for (int power = 0; power <= degree; power++) {
                seed = seed * 1103515245 + 12345;
                work.put(power, (seed & 0x7fffffff) / 65536 % (2 * m + 1) - m);
            }
            if (work.at(degree) == 0) {
                work.put(degree, 1);
            }
            if (!chain.build(work)) {
                return FULL;
            }
            many += chain.total();
        }
        return many;
    }

    public int list(int list, int n) {
        if (!rows.known(list) || n > Rows.LONGEST) {
            return BAD;
        }
        if (n < 0) {
            return BELOW;
        }
        rows.lay(list, n);
        return 1;
    }

    public int set(int list, int i, int v) {
        if (!rows.known(list)) {
            return BAD;
        }
        int size = rows.size(list);
        if (size < 0) {
            return NOTHING;
        }
        if (i < 0 || i >= size) {
            return BEYOND;
        }
        rows.put(list, i, v);
        return 1;
    }

    public long get(int list, int i) {
        if (!rows.known(list) || i < 0 || i >= rows.size(list)) {
            return NO;
        }
        return rows.at(list, i);
    }

    public int into(int p, int list, int q) {
        Poly poly = shelf.pick(p);
        if (poly == null || !rows.known(list)) {
            return BAD;
        }
        int size = rows.size(list);
        if (size < 0) {
            return NOTHING;
        }
        if (q < 0) {
            return BEYOND;
        }
        int many = 0;
        for (int power = 0; power <= TOP_POWER && q < size - power; power++) {
            rows.put(list, q + power, (int) poly.at(power));
            many++;
        }
        return many;
    }

    public int image() {
        kept.copy(shelf);
        imaged = true;
        return kept.size();
    }

    public int back() {
        if (!imaged) {
            return STATE;
        }
        shelf.copy(kept);
        return shelf.size();
    }

    public int count(int what) {
        switch (what) {
            case 0:
                return shelf.size();
            case 1:
                return tape.length();
            case 2:
                return paper.length();
            default:
                return BAD;
        }
    }

    // ---- what the calls share

    /** The number under which a polynomial comes to stand; FULL or NOT if it can't. */
    private int bring(Poly poly) {
        if (shelf.isFull()) {
            return FULL;
        }
        int degree = poly.degree();
        if (degree < 0) {
            return NOT;
        }
        if (degree > TOP_POWER || poly.greatest() > NUMBER_END) {
            return FULL;
        }
        return shelf.add(poly);
    }

    private boolean badSecond(int what, int j) {
        if (needsSecondPoly(what)) {
            return shelf.pick(j) == null;
        }
        if (what == SHIFT || what == STRETCH) {
            return j < -9 || j > 9;
        }
        return what == PART && (j < 1 || j > 4);
    }

    private static boolean needsSecondPoly(int what) {
        return what == SUM || what == PRODUCT || what == LESS || what == COMMON || what == REST;
    }

    private static boolean beyond(int number) {
        return number < -NUMBER_END || number > NUMBER_END;
    }

    private static boolean badPoint(int u, int v) {
        return u < -POINT_END || u > POINT_END || v < 1 || v > POINT_END;
    }

    /** Q's sign at the k-th root of what `chain` has, whose FENCE by 0 stands; `second` has Q's chain. */
    private long signOutside(int k, Poly q) {
        for (int h = 0; h <= FINEST; h++) {
            if (!fence.narrow(chain, k, h)) {
                return NO;
            }
            if (fence.holds(second) == 0) {
                return q.signAt(fence.endU(), fence.endV());
            }
        }
        return NO;
    }

    /** Both fences by 0 hold one and the same of the common roots that `third` counts. */
    private boolean alike() {
        if (fence.holds(third) == 0 || other.holds(third) == 0) {
            return false;
        }
        return third.turnsAt(fence.endU(), fence.endV()) == third.turnsAt(other.endU(), other.endV());
    }

    /** Which root is the greater, from their FENCES by 0 on, which stand. */
    private long order(int i, int j) {
        for (int h = 0; h <= FINEST; h++) {
            if (!fence.narrow(chain, i, h) || !other.narrow(second, j, h)) {
                return NO;
            }
            if (fence.isBefore(other)) {
                return -1;
            }
            if (other.isBefore(fence)) {
                return 1;
            }
        }
        return NO;
    }

    private boolean toldRightly(int list, int place, int k) {
        int u = rows.at(list, place);
        int v = rows.at(list, place + 1);
        int t = rows.at(list, place + 2);
        int w = rows.at(list, place + 3);
        if (badPoint(u, v) || badPoint(t, w) || u * w >= t * v) {
            return false;
        }
        int ahead = chain.notAbove(u, v);
        return ahead == k && chain.notAbove(t, w) == k + 1;
    }

    private static long gcd(long a, long b) {
        long x = a < 0 ? -a : a;
        long y = b < 0 ? -b : b;
        for (int step = 0; step < 1000 && y != 0; step++) {
            long rest = x % y;
            x = y;
            y = rest;
        }
        return x;
    }

    /** A polynomial: room for products of two, which are more than what may be kept. */
    private static final class Poly {
        static final int SIZE = 9;
        static final long CLEAN_END = 1000000;

        private final long[] numbers = new long[SIZE];

        long at(int power) {
            return power >= 0 && power < SIZE ? numbers[power] : 0;
        }

        void put(int power, long number) {
            if (power >= 0 && power < SIZE) {
                numbers[power] = number;
            }
        }

        /** -1: all numbers are 0. */
        int degree() {
            int power = SIZE - 1;
            while (power >= 0 && numbers[power] == 0) {
                power--;
            }
            return power;
        }

        long head() {
            return at(degree());
        }

        void clear() {
            for (int i = 0; i < SIZE; i++) {
                numbers[i] = 0;
            }
        }

        void copy(Poly from) {
            for (int i = 0; i < SIZE; i++) {
                numbers[i] = from.numbers[i];
            }
        }

        boolean like(Poly than) {
            for (int i = 0; i < SIZE; i++) {
                if (numbers[i] != than.numbers[i]) {
                    return false;
                }
            }
            return true;
        }

        long greatest() {
            long most = 0;
            for (int i = 0; i < SIZE; i++) {
                most = Math.max(most, Math.abs(numbers[i]));
            }
            return most;
        }

        /** How often the sign changes along the numbers that aren't 0. */
        int turns() {
            int many = 0;
            int last = 0;
            for (int i = 0; i < SIZE; i++) {
                int sign = Long.signum(numbers[i]);
                if (sign * last < 0) {
                    many++;
                }
                if (sign != 0) {
                    last = sign;
                }
            }
            return many;
        }

        void turnSigns() {
            for (int i = 0; i < SIZE; i++) {
                numbers[i] = -numbers[i];
            }
        }

        void headUp() {
            if (at(degree()) < 0) {
                turnSigns();
            }
        }

        void add(Poly more, long factor) {
            for (int i = 0; i < SIZE; i++) {
                numbers[i] += more.numbers[i] * factor;
            }
        }

        void product(Poly a, Poly b) {
            clear();
            for (int i = 0; i < SIZE; i++) {
                for (int j = 0; j < SIZE - i; j++) {
                    numbers[i + j] += a.numbers[i] * b.numbers[j];
                }
            }
        }

        void derive() {
            for (int i = 1; i < SIZE; i++) {
                numbers[i - 1] = numbers[i] * i;
            }
            numbers[SIZE - 1] = 0;
        }

        /** CLEANED; false: FULL. Without a call to gcd(), for calls not to go too deep. */
        boolean clean() {
            long divisor = 0;
            for (int i = 0; i < SIZE && divisor != 1; i++) {
                long rest = numbers[i] < 0 ? -numbers[i] : numbers[i];
                for (int step = 0; step < 1000 && rest != 0; step++) {
                    long less = divisor % rest;
                    divisor = rest;
                    rest = less;
                }
            }
            boolean fits = true;
            for (int i = 0; i < SIZE; i++) {
                if (divisor > 1) {
                    numbers[i] /= divisor;
                }
                fits = fits && numbers[i] >= -CLEAN_END && numbers[i] <= CLEAN_END;
            }
            return fits;
        }

        /** It becomes its REMAINDER by another one that isn't all 0; false: FULL. */
        boolean reduce(Poly by) {
            int low = by.degree();
            boolean fits = clean();
            if (low < 0) {
                return fits;
            }
            long lead = by.numbers[low];
            // Each step ends CLEANED: two steps without it could go beyond a long.
            for (int top = SIZE - 1; top >= low && fits; top--) {
                long head = lead < 0 ? -numbers[top] : numbers[top];
                if (head != 0) {
                    for (int i = 0; i < SIZE; i++) {
                        numbers[i] *= lead < 0 ? -lead : lead;
                    }
                    for (int i = 0; i <= low; i++) {
                        numbers[top - low + i] -= by.numbers[i] * head;
                    }
                    fits = clean();
                }
            }
            return fits;
        }

        /** It becomes the quotient by what divides it: nothing is left over. */
        void divide(Poly by) {
            int low = by.degree();
            long lead = by.at(low);
            if (lead == 0) {
                return;
            }
            for (int top = SIZE - 1; top >= low; top--) {
                numbers[top] /= lead;
                for (int i = 1; i <= low; i++) {
                    numbers[top - i] -= numbers[top] * by.numbers[low - i];
                }
            }
            for (int i = 0; i < SIZE; i++) {
                numbers[i] = at(i + low);
            }
        }

        /** Its value at u by v, times v to its degree: scale is 0 until the head comes. */
        long worth(long u, long v) {
            long sum = 0;
            long scale = 0;
            for (int power = SIZE - 1; power >= 0; power--) {
                if (scale == 0 && numbers[power] != 0) {
                    scale = 1;
                }
                sum = sum * u + numbers[power] * scale;
                scale *= v;
            }
            return sum;
        }

        int signAt(int u, int v) {
            return Long.signum(worth(u, v));
        }

        int signAboveAll() {
            return Long.signum(at(degree()));
        }

        int signBelowAll() {
            int degree = degree();
            int sign = Long.signum(at(degree));
            return degree % 2 == 0 ? sign : -sign;
        }
    }

    /** POLYNOMIALS 0, 1, .. as they came. */
    private static final class Shelf {
        static final int MOST = 8;

        private final Poly[] polys = new Poly[MOST];
        private int size = 0;

        Shelf() {
            for (int i = 0; i < MOST; i++) {
                polys[i] = new Poly();
            }
        }

        int size() {
            return size;
        }

        boolean isFull() {
            return size >= MOST;
        }

        /** null: no such number. */
        Poly pick(int p) {
            return p >= 0 && p < size && p < MOST ? polys[p] : null;
        }

        int add(Poly poly) {
            if (isFull()) {
                return FULL;
            }
            polys[size].copy(poly);
            size++;
            return size - 1;
        }

        void shorten(int left) {
            if (left >= 0 && left < size) {
                size = left;
            }
        }

        int howManyLike(Poly poly) {
            int many = 0;
            for (int i = 0; i < size; i++) {
                if (polys[i].like(poly)) {
                    many++;
                }
            }
            return many;
        }

        void copy(Shelf from) {
            size = from.size;
            for (int i = 0; i < size; i++) {
                polys[i].copy(from.polys[i]);
            }
        }
    }

    /** COMMON of two, and FREE of one, that is made with it. */
    private static final class Common {
        private Poly ahead = new Poly();
        private Poly last = new Poly();
        private final Poly slope = new Poly();

        /** What find() came to: it stands until the next one. */
        Poly result() {
            return ahead;
        }

        /** false: FULL. */
        boolean find(Poly p, Poly q) {
            ahead.copy(p);
            last.copy(q);
            boolean fits = ahead.clean() && last.clean();
            for (int step = 0; step < 3 * Poly.SIZE && fits && last.degree() >= 0; step++) {
                fits = ahead.reduce(last);
                Poly rest = ahead;
                ahead = last;
                last = rest;
            }
            ahead.headUp();
            return fits;
        }

        /** false: FULL. */
        boolean free(Poly p, Poly free) {
            free.copy(p);
            if (!free.clean()) {
                return false;
            }
            slope.copy(free);
            slope.derive();
            if (slope.degree() >= 0) {
                if (!find(free, slope)) {
                    return false;
                }
                free.divide(ahead);
            }
            free.headUp();
            return free.clean();
        }
    }

    /** The polynomials D of a P, each the repeated roots of the one ahead, and PARTS of P. */
    private static final class Parts {
        static final int ROWS = 6;

        private final Poly[] rows = new Poly[ROWS];
        private final Poly next = new Poly();
        private final Common common;

        Parts(Common common) {
            this.common = common;
            for (int i = 0; i < ROWS; i++) {
                rows[i] = new Poly();
            }
        }

        /** D0, D1, .. of P; false: FULL. */
        boolean split(Poly p) {
            rows[0].copy(p);
            boolean fits = rows[0].clean();
            rows[0].headUp();
            for (int m = 1; m < ROWS && fits; m++) {
                Poly slope = rows[m];
                slope.copy(rows[m - 1]);
                slope.derive();
                if (slope.degree() < 0) {
                    slope.put(0, 1);
                } else {
                    fits = common.find(rows[m - 1], slope);
                    slope.copy(common.result());
                }
            }
            return fits;
        }

        /** Dm; beyond those that are reckoned it is 1, as is the last of them. */
        Poly repeated(int m) {
            return m >= 0 && m < ROWS ? rows[m] : rows[ROWS - 1];
        }

        /** PART m of the P that was split; false: FULL. */
        boolean form(int m, Poly part) {
            part.copy(repeated(m - 1));
            part.divide(repeated(m));
            next.copy(repeated(m));
            next.divide(repeated(m + 1));
            if (!part.clean() || !next.clean()) {
                return false;
            }
            part.divide(next);
            return part.clean();
        }
    }

    /** What MAKING comes to, ahead of the look whether it may be kept. */
    private static final class Maker {
        private final Common common;
        private final Parts parts;

        Maker(Common common, Parts parts) {
            this.common = common;
            this.parts = parts;
        }

        /** false: FULL. */
        boolean form(int what, Poly first, Poly with, int k, Poly made) {
            made.copy(first);
            boolean fits = true;
            switch (what) {
                case SUM:
                    made.add(with, 1);
                    break;
                case PRODUCT:
                    made.product(first, with);
                    break;
                case LESS:
                    made.add(with, -1);
                    break;
                case COMMON:
                    fits = common.find(first, with);
                    made.copy(common.result());
                    break;
                case DERIVE:
                    made.derive();
                    break;
                case TURN:
                    stretch(made, -1);
                    break;
                case SHIFT:
                    shift(made, k);
                    break;
                case STRETCH:
                    stretch(made, k);
                    break;
                case REVERSE:
                    reverse(first, made);
                    break;
                case FREE:
                    fits = common.free(first, made);
                    break;
                case REST:
                    fits = made.reduce(with);
                    break;
                default:
                    fits = parts.split(first) && parts.form(k, made);
                    break;
            }
            return fits;
        }

        /** k times x for x. */
        private static void stretch(Poly poly, int k) {
            long factor = 1;
            for (int power = 0; power <= TOP_POWER; power++) {
                poly.put(power, poly.at(power) * factor);
                factor *= k;
            }
        }

        /** x and k for x: each round settles one more power from the least on. */
        private static void shift(Poly poly, int k) {
            for (int settled = 0; settled < TOP_POWER; settled++) {
                for (int power = TOP_POWER - 1; power >= settled; power--) {
                    poly.put(power, poly.at(power) + k * poly.at(power + 1));
                }
            }
        }

        private static void reverse(Poly from, Poly made) {
            int degree = from.degree();
            for (int power = 0; power <= degree; power++) {
                made.put(power, from.at(degree - power));
            }
        }
    }

    /** CHAIN of a polynomial and CHANGES along it. */
    private static final class Chain {
        private static final int MOST = Poly.SIZE + 1;
        private static final int FARTHEST = 512;

        private final Poly[] members = new Poly[MOST];
        private final Poly slope = new Poly();
        private final Common common;
        private int length = 0;
        private int below = 0;
        private int above = 0;

        Chain(Common common) {
            this.common = common;
            for (int i = 0; i < MOST; i++) {
                members[i] = new Poly();
            }
        }

        /** CHAIN of P; false: FULL. */
        boolean build(Poly p) {
            length = 0;
            if (!common.free(p, members[0])) {
                return false;
            }
            members[1].copy(members[0]);
            members[1].derive();
            return members[1].clean() && extend();
        }

        /** The chain of SUM of SIGNS of Q at P's roots; false: FULL. */
        boolean buildSum(Poly p, Poly q) {
            length = 0;
            if (!common.free(p, members[0])) {
                return false;
            }
            slope.copy(members[0]);
            slope.derive();
            members[1].product(slope, q);
            return members[1].reduce(members[0]) && extend();
        }

        /** The first two stand there; the rest comes behind them. */
        private boolean extend() {
            length = 1;
            boolean fits = true;
            while (fits && length < MOST && members[length].degree() >= 0) {
                length++;
                if (length < MOST) {
                    members[length].copy(members[length - 2]);
                    fits = members[length].reduce(members[length - 1]);
                    members[length].turnSigns();
                }
            }
            below = turnsBelowAll();
            above = turnsAboveAll();
            return fits;
        }

        int length() {
            return length;
        }

        /** null: no such member. */
        Poly member(int k) {
            return k >= 0 && k < length && k < MOST ? members[k] : null;
        }

        int turnsAt(int u, int v) {
            int many = 0;
            int last = 0;
            for (int i = 0; i < length; i++) {
                int sign = members[i].signAt(u, v);
                if (sign * last < 0) {
                    many++;
                }
                if (sign != 0) {
                    last = sign;
                }
            }
            return many;
        }

        private int turnsBelowAll() {
            int many = 0;
            for (int i = 1; i < length; i++) {
                if (members[i - 1].signBelowAll() != members[i].signBelowAll()) {
                    many++;
                }
            }
            return many;
        }

        private int turnsAboveAll() {
            int many = 0;
            for (int i = 1; i < length; i++) {
                if (members[i - 1].signAboveAll() != members[i].signAboveAll()) {
                    many++;
                }
            }
            return many;
        }

        /** CHANGES BELOW ALL. */
        int below() {
            return below;
        }

        /** CHANGES ABOVE ALL. */
        int above() {
            return above;
        }

        int total() {
            return below - above;
        }

        boolean hasRoot(int k) {
            return k >= 0 && k < total();
        }

        /** How many roots are not above u by v. */
        int notAbove(int u, int v) {
            return below - turnsAt(u, v);
        }

        /** M; 0: none. */
        int reach() {
            for (int m = 1; m <= FARTHEST; m *= 2) {
                if (turnsAt(-m, 1) == below && turnsAt(m, 1) == above) {
                    return m;
                }
            }
            return 0;
        }
    }

    /** FENCE of a root: from low to high, both counted in parts of 1. */
    private static final class Fence {
        private long low = 0;
        private long high = 0;
        private long parts = 1;
        private int turnsAtLow = 0;
        private int turnsAtHigh = 0;

        /** FENCE of the k-th root by h; false: FULL. */
        boolean find(Chain chain, int k, int h) {
            int reach = chain.reach();
            low = -reach;
            high = reach;
            parts = 1;
            turnsAtLow = chain.below();
            turnsAtHigh = chain.above();
            return reach > 0 && narrow(chain, k, h);
        }

        /** From the same root's FENCE by less on to that by h; false: FULL. */
        boolean narrow(Chain chain, int k, int h) {
            boolean fits = true;
            // Each round halves the width, and points with more than 1000 parts end it.
            for (int round = 0; round < 100 && fits; round++) {
                if (turnsAtLow - turnsAtHigh <= 1 && (high - low) << h <= parts) {
                    return true;
                }
                fits = halve(chain, k);
            }
            return false;
        }

        private boolean halve(Chain chain, int k) {
            if ((high - low) % 2 != 0) {
                low *= 2;
                high *= 2;
                parts *= 2;
            }
            long middle = (low + high) / 2;
            int u = over(middle);
            int v = under(middle);
            if (badPoint(u, v)) {
                return false;
            }
            int turns = chain.turnsAt(u, v);
            if (k < chain.below() - turns) {
                high = middle;
                turnsAtHigh = turns;
            } else {
                low = middle;
                turnsAtLow = turns;
            }
            return true;
        }

        int beginU() {
            return over(low);
        }

        int beginV() {
            return under(low);
        }

        int endU() {
            return over(high);
        }

        int endV() {
            return under(high);
        }

        /** How many roots of another chain are within. */
        int holds(Chain chain) {
            return chain.turnsAt(beginU(), beginV()) - chain.turnsAt(endU(), endV());
        }

        boolean isBefore(Fence than) {
            return high * than.parts <= than.low * parts;
        }

        private int over(long place) {
            long divisor = gcd(place, parts);
            return divisor > 0 ? (int) (place / divisor) : 0;
        }

        private int under(long place) {
            long divisor = gcd(place, parts);
            return divisor > 0 ? (int) (parts / divisor) : 1;
        }
    }

    /** FRACTIONS of a polynomial, from the least on. */
    private static final class Fractions {
        private static final int MOST = TOP_POWER;
        /** No number up to 999 has more divisors: 840 has as many. */
        private static final int DIVISORS = 32;

        private final int[] overs = new int[MOST];
        private final int[] unders = new int[MOST];
        private final int[] footDivisors = new int[DIVISORS];
        private final int[] headDivisors = new int[DIVISORS];
        private int size = 0;

        int size() {
            return size;
        }

        int over(int k) {
            return k >= 0 && k < MOST ? overs[k] : 0;
        }

        int under(int k) {
            return k >= 0 && k < MOST ? unders[k] : 1;
        }

        /** Of a root u by v in lowest terms, v divides the head and u the least number that isn't 0. */
        void find(Poly p) {
            size = 0;
            int lowest = 0;
            while (lowest < TOP_POWER && p.at(lowest) == 0) {
                lowest++;
            }
            if (lowest > 0) {
                insert(0, 1);
            }
            int overMany = divisors(p.at(lowest), footDivisors);
            int underMany = divisors(p.head(), headDivisors);
            for (int i = 0; i < overMany && i < DIVISORS; i++) {
                for (int j = 0; j < underMany && j < DIVISORS; j++) {
                    tryBoth(p, footDivisors[i], headDivisors[j]);
                }
            }
        }

        private static int divisors(long number, int[] into) {
            int many = 0;
            for (int d = 1; d <= NUMBER_END && many < into.length; d++) {
                if (number % d == 0) {
                    into[many] = d;
                    many++;
                }
            }
            return many;
        }

        /** u by v and its minus. */
        private void tryBoth(Poly p, int u, int v) {
            if (gcd(u, v) != 1) {
                return;
            }
            if (p.worth(u, v) == 0) {
                insert(u, v);
            }
            if (p.worth(-u, v) == 0) {
                insert(-u, v);
            }
        }

        private void insert(int u, int v) {
            if (size >= MOST) {
                return;
            }
            int place = size;
            while (place > 0 && u * unders[place - 1] < overs[place - 1] * v) {
                overs[place] = overs[place - 1];
                unders[place] = unders[place - 1];
                place--;
            }
            overs[place] = u;
            unders[place] = v;
            size++;
        }
    }

    /** THE TAPE, and how WORDS on it are read, a STATEMENT at a time. */
    private static final class Tape {
        private static final int MOST = 120, FAULTY = -1000;

        private final byte[] bytes = new byte[MOST];
        private int length = 0;
        private final Poly told = new Poly();
        private int what = 0;
        private int first = 0;
        private int second = 0;
        private int power = 0;
        private int size = 0;

        int length() {
            return length;
        }

        boolean take(int letter) {
            if (length >= MOST) {
                return false;
            }
            bytes[length] = (byte) letter;
            length++;
            return true;
        }

        void clear() {
            length = 0;
        }

        /** A word's MAKING, or TOLD: then told() has the polynomial. */
        int what() {
            return what;
        }

        int first() {
            return first;
        }

        int second() {
            return second;
        }

        Poly told() {
            return told;
        }

        /** How many STATEMENTS, or the FAULT that the tape itself has. */
        int check() {
            int at = 0;
            for (int statements = 1; statements <= MOST; statements++) {
                at = statement(at);
                if (at < 0 || at == length) {
                    return at < 0 ? at : statements;
                }
                if (at(at) != ';') {
                    return fault(at);
                }
                at++;
            }
            return fault(length);
        }

        /** Reads the STATEMENT that begins there: the place behind it, or the FAULT. */
        int statement(int begin) {
            if (at(begin) == '=') {
                what = TOLD;
                return text(begin + 1);
            }
            int end = begin;
            while (end < length && at(end) >= 'a' && at(end) <= 'z') {
                end++;
            }
            what = wordBetween(begin, end);
            return what < 0 ? fault(begin) : figures(end);
        }

        private int wordBetween(int begin, int end) {
            for (int i = 0; i < MAKINGS; i++) {
                String word = word(i);
                boolean same = word.length() == end - begin;
                for (int k = 0; k < word.length() && same; k++) {
                    same = word.charAt(k) == at(begin + k);
                }
                if (same) {
                    return i;
                }
            }
            return -1;
        }

        private static String word(int what) {
            switch (what) {
                case SUM:
                    return "sum";
                case PRODUCT:
                    return "product";
                case LESS:
                    return "less";
                case COMMON:
                    return "common";
                case DERIVE:
                    return "derive";
                case TURN:
                    return "turn";
                case SHIFT:
                    return "shift";
                case STRETCH:
                    return "stretch";
                case REVERSE:
                    return "reverse";
                case FREE:
                    return "free";
                case REST:
                    return "rest";
                default:
                    return "part";
            }
        }

        private int figures(int begin) {
            int at = begin;
            if (at(at) != ' ') {
                return fault(at);
            }
            at++;
            if (!isFigure(at)) {
                return fault(at);
            }
            first = at(at) - '0';
            at++;
            boolean signed = what == SHIFT || what == STRETCH || what == PART;
            if (!signed && !needsSecondPoly(what)) {
                return at;
            }
            if (at(at) != ' ') {
                return fault(at);
            }
            at++;
            boolean minus = signed && at(at) == '-';
            if (minus) {
                at++;
            }
            if (!isFigure(at)) {
                return fault(at);
            }
            second = minus ? '0' - at(at) : at(at) - '0';
            return at + 1;
        }

        private int text(int begin) {
            told.clear();
            int at = begin;
            boolean minus = at(at) == '-';
            if (minus) {
                at++;
            }
            int above = TOP_POWER + 1;
            for (int terms = 0; terms < MOST; terms++) {
                int behind = term(at);
                if (behind < 0) {
                    return behind;
                }
                if (power >= above) {
                    return fault(at);
                }
                above = power;
                told.put(power, minus ? -size : size);
                if (at(behind) != '+' && at(behind) != '-') {
                    return behind;
                }
                minus = at(behind) == '-';
                at = behind + 1;
            }
            return fault(length);
        }

        /** Reads a TERM as far as it goes, its `power` and `size`: the place behind it, or the FAULT. */
        private int term(int begin) {
            int at = begin;
            size = 0;
            power = 0;
            if (at(at) == '0') {
                return fault(at);
            }
            while (at - begin < 3 && isFigure(at)) {
                size = size * 10 + at(at) - '0';
                at++;
            }
            if (at(at) != 'x') {
                return at == begin ? fault(at) : at;
            }
            if (at == begin) {
                size = 1;
            }
            power = 1;
            at++;
            if (at(at) != '^') {
                return at;
            }
            at++;
            if (at(at) < '2' || at(at) > '4') {
                return fault(at);
            }
            power = at(at) - '0';
            return at + 1;
        }

        /** 0, which no byte is, behind the end. */
        private int at(int place) {
            return place >= 0 && place < length && place < MOST ? bytes[place] : 0;
        }

        private boolean isFigure(int place) {
            return at(place) >= '0' && at(place) <= '9';
        }

        private static int fault(int place) {
            return FAULTY - place;
        }
    }

    /** THE PAPER. */
    private static final class Paper {
        private static final int MOST = 60;

        private final byte[] bytes = new byte[MOST];
        private int length = 0;

        int length() {
            return length;
        }

        int at(int place) {
            return place >= 0 && place < length && place < MOST ? bytes[place] : 0;
        }

        void write(Poly poly) {
            length = 0;
            for (int power = TOP_POWER; power >= 0; power--) {
                int number = (int) poly.at(power);
                if (number != 0) {
                    writeTerm(number, power);
                }
            }
        }

        private void writeTerm(int number, int power) {
            if (number < 0) {
                put('-');
            } else if (length > 0) {
                put('+');
            }
            int size = number < 0 ? -number : number;
            if (size != 1 || power == 0) {
                writeSize(size);
            }
            if (power > 0) {
                put('x');
            }
            if (power > 1) {
                put('^');
                put('0' + power);
            }
        }

        private void writeSize(int size) {
            if (size >= 100) {
                put('0' + size / 100 % 10);
            }
            if (size >= 10) {
                put('0' + size / 10 % 10);
            }
            put('0' + size % 10);
        }

        private void put(int letter) {
            if (length < MOST) {
                bytes[length] = (byte) letter;
                length++;
            }
        }
    }

    /** LISTS. */
    private static final class Rows {
        static final int LONGEST = 24;
        private static final int MOST = 4;

        private final int[] cells = new int[MOST * LONGEST];
        private final int[] sizes = new int[MOST];

        Rows() {
            for (int i = 0; i < MOST; i++) {
                sizes[i] = -1;
            }
        }

        boolean known(int list) {
            return list >= 0 && list < MOST;
        }

        /** -1: it holds nothing. */
        int size(int list) {
            return known(list) ? sizes[list] : -1;
        }

        void lay(int list, int n) {
            if (!known(list) || n < 0 || n > LONGEST) {
                return;
            }
            sizes[list] = n;
            for (int i = 0; i < n; i++) {
                cells[list * LONGEST + i] = 0;
            }
        }

        int at(int list, int i) {
            return i >= 0 && i < size(list) ? cells[list * LONGEST + i] : 0;
        }

        void put(int list, int i, int v) {
            if (i >= 0 && i < size(list)) {
                cells[list * LONGEST + i] = v;
            }
        }
    }
}
