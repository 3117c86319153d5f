import java.math.BigInteger;
import java.util.ArrayList;
import java.util.Collections;
import java.util.List;
import java.util.regex.Matcher;
import java.util.regex.Pattern;

/**
 * The document's calls once more, all that they keep with them, over Model's
 * terms: RunsTest asks it and the class the same calls.
 */
final class Whole {
    private static final List<String> MAKINGS = List.of("sum", "product", "less", "common", "derive", "turn", "shift",
        "stretch", "reverse", "free", "rest", "part");
    private static final Pattern TERM = Pattern.compile("([1-9][0-9]{0,2})?(x(\\^([2-4])?)?)?");

    private final List<List<BigInteger>> polys = new ArrayList<>();
    private List<List<BigInteger>> image = null;
    private final int[][] lists = new int[4][];
    private String tape = "";
    private String paper = "";
    /** How far the tape is read, and the polynomial or the making that the last statement tells. */
    private int at = 0;
    private int[] told = null;
    private int[] makes = null;

    /** What a call comes to that may be FULL. */
    private interface Reckoned {
        long answer();
    }

    private static long reckoned(Reckoned call, long full) {
        try {
            return call.answer();
        } catch (Model.Full e) {
            return full;
        }
    }

    private boolean none(int p) {
        return p < 0 || p >= polys.size();
    }

    private static boolean noPoint(int u, int v) {
        return Math.abs((long) u) > 1000 || v < 1 || v > 1000;
    }

    private static boolean noList(int list) {
        return list < 0 || list > 3;
    }

    // ---- polynomials

    long poly(int c0, int c1, int c2, int c3, int c4) {
        int[] numbers = {c0, c1, c2, c3, c4};
        for (int number : numbers) {
            if (Math.abs((long) number) > 999) {
                return Checks.BAD;
            }
        }
        return polys.size() == 8 ? Checks.FULL : brings(Model.poly(c0, c1, c2, c3, c4));
    }

    private long brings(List<BigInteger> p) {
        if (p.isEmpty()) {
            return Checks.NOT;
        }
        for (BigInteger number : p) {
            if (p.size() > 5 || number.abs().compareTo(BigInteger.valueOf(999)) > 0) {
                return Checks.FULL;
            }
        }
        polys.add(p);
        return polys.size() - 1;
    }

    long make(int what, int i, int j) {
        if (what < 0 || what > 11 || none(i)) {
            return Checks.BAD;
        }
        boolean two = what < 4 || what == 10;
        boolean k = what == 6 || what == 7;
        if (two && none(j) || k && (j < -9 || j > 9) || what == 11 && (j < 1 || j > 4)) {
            return Checks.BAD;
        }
        if (polys.size() == 8) {
            return Checks.FULL;
        }
        return reckoned(() -> brings(made(what, polys.get(i), two ? polys.get(j) : null, j)), Checks.FULL);
    }

    private static List<BigInteger> made(int what, List<BigInteger> p, List<BigInteger> q, int k) {
        switch (what) {
            case 0: return Model.plus(p, q);
            case 1: return Model.times(p, q);
            case 2: return Model.plus(p, Model.minus(q));
            case 3: return Model.common(p, q);
            case 4: return Model.derived(p);
            case 5: return Model.put(p, Model.poly(0, -1));
            case 6: return Model.put(p, Model.poly(k, 1));
            case 7: return Model.put(p, Model.poly(0, k));
            case 8: return Model.reversed(p);
            case 9: return Model.free(p);
            case 10: return Model.remainder(p, q);
            default: return Model.part(p, k);
        }
    }

    long drop() {
        if (polys.isEmpty()) {
            return Checks.STATE;
        }
        polys.remove(polys.size() - 1);
        return polys.size();
    }

    long number(int p, int power) {
        return none(p) || power < 0 || power > 4 ? Checks.NO : Model.at(polys.get(p), power).longValue();
    }

    long of(int p, int what) {
        if (none(p) || what < 0 || what > 2) {
            return Checks.BAD;
        }
        List<BigInteger> poly = polys.get(p);
        if (what == 1) {
            List<Integer> signs = new ArrayList<>();
            poly.forEach(number -> signs.add(number.signum()));
            return Model.turns(signs);
        }
        return what == 0 ? Model.degree(poly) : Collections.frequency(polys, poly);
    }

    long value(int p, int u, int v) {
        return none(p) || noPoint(u, v) ? Checks.NO : Model.valueAt(polys.get(p), u, v).longValueExact();
    }

    // ---- chains, counts

    long chain(int p, int k, int power) {
        if (none(p)) {
            return Checks.NO;
        }
        return reckoned(() -> {
            List<List<BigInteger>> chain = Model.chain(polys.get(p));
            boolean no = k < 0 || k >= chain.size() || power < 0 || power > 4;
            return k == -1 ? chain.size() : no ? Checks.NO : Model.at(chain.get(k), power).longValue();
        }, Checks.NO);
    }

    long changes(int p, int u, int v) {
        boolean bad = none(p) || noPoint(u, v);
        return bad ? Checks.BAD : reckoned(() -> Model.changes(Model.chain(polys.get(p)), u, v), Checks.FULL);
    }

    long roots(int p) {
        return none(p) ? Checks.BAD : reckoned(() -> Model.roots(polys.get(p)), Checks.FULL);
    }

    long within(int p, int u, int v, int t, int w) {
        if (none(p) || noPoint(u, v) || noPoint(t, w) || u * w >= t * v) {
            return Checks.BAD;
        }
        long[] between = {u, v, t, w};
        return reckoned(() -> Model.within(Model.chain(polys.get(p)), between), Checks.FULL);
    }

    long bound(int p) {
        return none(p) ? Checks.BAD : reckoned(() -> Model.bound(Model.chain(polys.get(p))), Checks.FULL);
    }

    /** Whether P has a k-th root: asked first, so FULL goes ahead of it. */
    private boolean hasRoot(int p, int k) {
        int roots = Model.roots(polys.get(p));
        return k >= 0 && k < roots;
    }

    long fence(int p, int k, int h, int what) {
        boolean no = none(p) || h < 0 || h > 9 || what < 0 || what > 3;
        return no ? Checks.NO : reckoned(() -> hasRoot(p, k) ? Model.fence(polys.get(p), k, h)[what] : Checks.NO, Checks.NO);
    }

    long times(int p, int k) {
        return none(p) ? Checks.BAD
            : reckoned(() -> hasRoot(p, k) ? Model.many(polys.get(p), k) : Checks.BAD, Checks.FULL);
    }

    // ---- two polynomials

    long shared(int p, int q) {
        return none(p) || none(q) ? Checks.BAD
            : reckoned(() -> Model.roots(Model.common(polys.get(p), polys.get(q))), Checks.FULL);
    }

    long sign(int p, int k, int q) {
        return none(p) || none(q) ? Checks.NO
            : reckoned(() -> hasRoot(p, k) ? Model.sign(polys.get(p), k, polys.get(q)) : Checks.NO, Checks.NO);
    }

    long signs(int p, int q) {
        return none(p) || none(q) ? Checks.NO : reckoned(() -> Model.signs(polys.get(p), polys.get(q)), Checks.NO);
    }

    long which(int p, int i, int q, int j) {
        return none(p) || none(q) ? Checks.NO : reckoned(() -> hasRoot(p, i) && hasRoot(q, j)
            ? Model.which(polys.get(p), i, polys.get(q), j) : Checks.NO, Checks.NO);
    }

    long fraction(int p, int k, int what) {
        if (none(p)) {
            return Checks.NO;
        }
        List<long[]> fractions = Model.fractions(polys.get(p));
        boolean no = k < 0 || k >= fractions.size() || what < 0 || what > 1;
        return k == -1 ? fractions.size() : no ? Checks.NO : fractions.get(k)[what];
    }

    // ---- texts

    long feed(int letter) {
        if (letter < 1 || letter > 127) {
            return Checks.BAD;
        }
        if (tape.length() == 120) {
            return Checks.FULL;
        }
        tape += (char) letter;
        return tape.length();
    }

    long reads() {
        List<List<BigInteger>> before = new ArrayList<>(polys);
        List<int[]> statements = new ArrayList<>();
        at = 0;
        boolean ends = false;
        boolean faulty = false;
        while (!ends && !faulty) {
            int begin = at;
            told = null;
            faulty = !(next() == '=' ? text() : word());
            statements.add(told != null ? told : makes);
            statements.add(new int[] {begin});
            ends = at == tape.length();
            faulty |= !ends && next() != ';';
            at += ends || faulty ? 0 : 1;
        }
        tape = "";
        if (faulty) {
            return -1000 - at;
        }
        for (int i = 0; i < statements.size(); i += 2) {
            int[] s = statements.get(i);
            long came = s.length == 5 ? poly(s[0], s[1], s[2], s[3], s[4]) : make(s[0], s[1], s[2]);
            if (came < 0) {
                polys.clear();
                polys.addAll(before);
                return -2000 - statements.get(i + 1)[0];
            }
        }
        return statements.size() / 2;
    }

    /** The byte that comes next; a blank of no text behind the end. */
    private char next() {
        return at < tape.length() ? tape.charAt(at) : '\0';
    }

    private boolean took(char letter) {
        if (at < tape.length() && tape.charAt(at) == letter) {
            at++;
            return true;
        }
        return false;
    }

    /** false: a fault, `at` its place. */
    private boolean text() {
        took('=');
        int[] numbers = new int[5];
        boolean minus = took('-');
        int above = 5;
        while (true) {
            Matcher term = TERM.matcher(tape).region(at, tape.length());
            if (!term.lookingAt() || term.end() == at) {
                return false;
            }
            if (term.group(3) != null && term.group(4) == null) {
                at = term.end();
                return false;
            }
            int power = term.group(2) == null ? 0 : term.group(4) == null ? 1 : Integer.parseInt(term.group(4));
            if (power >= above) {
                return false;
            }
            above = power;
            int size = term.group(1) == null ? 1 : Integer.parseInt(term.group(1));
            numbers[power] = minus ? -size : size;
            at = term.end();
            minus = took('-');
            if (!minus && !took('+')) {
                told = numbers;
                return true;
            }
        }
    }

    /** false: a fault, `at` its place. */
    private boolean word() {
        int end = at;
        while (end < tape.length() && tape.charAt(end) >= 'a' && tape.charAt(end) <= 'z') {
            end++;
        }
        int what = MAKINGS.indexOf(tape.substring(at, end));
        if (what < 0) {
            return false;
        }
        at = end;
        makes = new int[] {what, 0, 0};
        boolean k = what == 6 || what == 7 || what == 11;
        boolean two = what < 4 || what == 10;
        return figure(1, false) && (!two && !k || figure(2, k));
    }

    private boolean figure(int place, boolean signed) {
        if (!took(' ')) {
            return false;
        }
        int sign = signed && took('-') ? -1 : 1;
        if (next() < '0' || next() > '9') {
            return false;
        }
        makes[place] = sign * (next() - '0');
        at++;
        return true;
    }

    long prints(int p) {
        if (none(p)) {
            return Checks.BAD;
        }
        StringBuilder text = new StringBuilder();
        for (int power = Model.degree(polys.get(p)); power >= 0; power--) {
            int number = Model.at(polys.get(p), power).intValue();
            if (number != 0) {
                text.append(number < 0 ? "-" : text.length() > 0 ? "+" : "");
                text.append(Math.abs(number) == 1 && power > 0 ? "" : Math.abs(number));
                text.append(power > 1 ? "x^" + power : power == 1 ? "x" : "");
            }
        }
        paper = text.toString();
        return paper.length();
    }

    long paper(int i) {
        return i < 0 ? Checks.BAD : i < paper.length() ? paper.charAt(i) : Checks.NOT;
    }

    // ---- told, by lot, rows, the image

    long judge(int p, int list, int q) {
        if (none(p) || noList(list) || q < 0) {
            return Checks.BAD;
        }
        if (lists[list] == null) {
            return Checks.NOTHING;
        }
        return reckoned(() -> judged(Model.chain(polys.get(p)), lists[list], q), Checks.FULL);
    }

    private static long judged(List<List<BigInteger>> chain, int[] row, int q) {
        int below = Model.changesFar(chain, -1);
        int roots = below - Model.changesFar(chain, 1);
        for (int k = 0; k < roots; k++) {
            long place = q + 4L * k;
            if (place + 4 > row.length) {
                return 100 + k;
            }
            int u = row[(int) place];
            int v = row[(int) place + 1];
            int t = row[(int) place + 2];
            int w = row[(int) place + 3];
            if (noPoint(u, v) || noPoint(t, w) || u * w >= t * v) {
                return k;
            }
            int ahead = below - Model.changes(chain, u, v);
            if (ahead != k || Model.within(chain, new long[] {u, v, t, w}) != 1) {
                return k;
            }
        }
        return -5;
    }

    long lots(int n, int degree, int m, int z) {
        if (n < 1 || n > 12 || degree < 1 || degree > 3 || m < 1 || m > 9) {
            return Checks.BAD;
        }
        return reckoned(() -> drawn(n, degree, m, z), Checks.FULL);
    }

    private static long drawn(int n, int degree, int m, int z) {
        int seed = z;
        long many = 0;
        for (int i = 0; i < n; i++) {
            long[] numbers = new long[degree + 1];
            for (int power = 0; power <= degree; power++) {
                seed = seed * 1103515245 + 12345;
                numbers[power] = (seed & Integer.MAX_VALUE) / 65536 % (2 * m + 1) - m;
            }
            numbers[degree] = numbers[degree] == 0 ? 1 : numbers[degree];
            many += Model.roots(Model.poly(numbers));
        }
        return many;
    }

    long list(int list, int n) {
        if (noList(list) || n > 24) {
            return Checks.BAD;
        }
        if (n < 0) {
            return Checks.BELOW;
        }
        lists[list] = new int[n];
        return 1;
    }

    long set(int list, int i, int v) {
        if (noList(list) || lists[list] == null) {
            return noList(list) ? Checks.BAD : Checks.NOTHING;
        }
        if (i < 0 || i >= lists[list].length) {
            return Checks.BEYOND;
        }
        lists[list][i] = v;
        return 1;
    }

    long get(int list, int i) {
        boolean no = noList(list) || lists[list] == null || i < 0 || i >= lists[list].length;
        return no ? Checks.NO : lists[list][i];
    }

    long into(int p, int list, int q) {
        if (none(p) || noList(list)) {
            return Checks.BAD;
        }
        if (lists[list] == null || q < 0) {
            return lists[list] == null ? Checks.NOTHING : Checks.BEYOND;
        }
        int many = 0;
        while (many < 5 && (long) q + many < lists[list].length) {
            lists[list][q + many] = Model.at(polys.get(p), many).intValue();
            many++;
        }
        return many;
    }

    long image() {
        image = new ArrayList<>(polys);
        return image.size();
    }

    long back() {
        if (image == null) {
            return Checks.STATE;
        }
        polys.clear();
        polys.addAll(image);
        return polys.size();
    }

    long count(int what) {
        return what == 0 ? polys.size() : what == 1 ? tape.length() : what == 2 ? paper.length() : Checks.BAD;
    }
}
