import java.lang.reflect.Method;

/** What the tests share: answers compared, wrong ones told, an end with exit code 1. */
final class Checks {
    static final int BAD = -1, NOT = -2, FULL = -3, STATE = -6;
    static final int NOTHING = -11, BEYOND = -13, BELOW = -14;
    static final long NO = Long.MIN_VALUE;

    /** A call that is asked later, between two looks at the state. */
    interface Call {
        long answer();
    }

    private final String about;
    private String sentence = "";
    private int wrong = 0;
    private int asked = 0;

    Checks(String about) {
        this.about = about;
    }

    /** The document's words that the answers asked from here on are held against. */
    void sentence(String words) {
        sentence = " (" + words + ")";
    }

    void due(String call, long got, long want) {
        due(call, String.valueOf(got), String.valueOf(want));
    }

    void due(String call, String got, String want) {
        asked++;
        if (!got.equals(want)) {
            wrong++;
            if (wrong <= 40) {
                System.out.println(about + sentence + ": " + call + " answered " + got + ", due is " + want);
            }
        }
    }

    /** A call that is refused answers so and changes nothing. */
    void refused(RootFence x, String call, Call asks, long want) {
        String before = wholeState(x);
        due(call, asks.answer(), want);
        due(call + ", what is there after it", wholeState(x), before);
    }

    /** A call by its name, of whatever object has such a one. */
    static long call(Object of, String name, int... numbers) {
        for (Method method : of.getClass().getDeclaredMethods()) {
            if (method.getName().equals(name) && method.getParameterCount() == numbers.length) {
                Object[] arguments = new Object[numbers.length];
                for (int i = 0; i < numbers.length; i++) {
                    arguments[i] = numbers[i];
                }
                try {
                    return ((Number) method.invoke(of, arguments)).longValue();
                } catch (ReflectiveOperationException e) {
                    throw new IllegalStateException(name, e);
                }
            }
        }
        throw new IllegalStateException("no call " + name);
    }

    void end() {
        System.out.println(about + ": " + asked + " answers, " + wrong + " wrong");
        if (wrong != 0 || asked == 0) {
            System.exit(1);
        }
    }

    /** A new object with the text's polynomials: each is fed and read by itself. */
    static RootFence with(String... polys) {
        RootFence x = new RootFence();
        for (String poly : polys) {
            if (read(x, "=" + poly) != 1) {
                throw new IllegalStateException(poly);
            }
        }
        return x;
    }

    static int read(RootFence x, String words) {
        feed(x, words);
        return x.reads();
    }

    static void feed(RootFence x, String words) {
        for (int i = 0; i < words.length(); i++) {
            x.feed(words.charAt(i));
        }
    }

    static String printed(RootFence x, int p) {
        int length = x.prints(p);
        StringBuilder text = new StringBuilder();
        for (int i = 0; i < length; i++) {
            text.append((char) x.paper(i));
        }
        return text.toString();
    }

    /** All polynomials as they stand, the tape's and the paper's length. */
    static String state(RootFence x) {
        StringBuilder text = new StringBuilder();
        int polys = x.count(0);
        for (int p = 0; p < polys; p++) {
            for (int power = 0; power < 5; power++) {
                text.append(x.number(p, power)).append(',');
            }
            text.append(' ');
        }
        return text.append(x.count(1)).append('/').append(x.count(2)).toString();
    }

    /** The same with the lists and the paper's bytes. */
    static String wholeState(RootFence x) {
        StringBuilder text = new StringBuilder(state(x));
        for (int list = 0; list < 4; list++) {
            text.append(' ').append(rowText(x, list)).append(';');
        }
        return text.append(paperText(x)).toString();
    }

    /** What a list holds, from its first place on. */
    static String rowText(RootFence x, int list) {
        StringBuilder text = new StringBuilder();
        for (int i = 0; i < 30 && x.get(list, i) != NO; i++) {
            text.append(i > 0 ? " " : "").append(x.get(list, i));
        }
        return text.toString();
    }

    static String paperText(RootFence x) {
        StringBuilder text = new StringBuilder();
        int length = x.count(2);
        for (int i = 0; i < length; i++) {
            text.append((char) x.paper(i));
        }
        return text.toString();
    }

    /** What make() of polynomial 0 and j brings, printed; or its answer, if nothing comes. */
    static String made(int what, int j, String... polys) {
        RootFence x = with(polys);
        int came = x.make(what, 0, j);
        return came == polys.length ? printed(x, came) : "answer " + came;
    }

    /** A fence as "u/v w/z"; "NO" if each of its four numbers is NO. */
    static String fenceText(RootFence x, int p, int k, int h) {
        long[] n = new long[4];
        int none = 0;
        for (int what = 0; what < 4; what++) {
            n[what] = x.fence(p, k, h, what);
            none += n[what] == NO ? 1 : 0;
        }
        return none == 4 ? "NO" : n[0] + "/" + n[1] + " " + n[2] + "/" + n[3];
    }

    /** The members of a chain, each with its numbers of the powers 0 to 4. */
    static String chainText(RootFence x, int p) {
        long members = x.chain(p, -1, 0);
        if (members == NO) {
            return "NO";
        }
        StringBuilder text = new StringBuilder();
        for (int k = 0; k < members; k++) {
            for (int power = 0; power < 5; power++) {
                text.append(x.chain(p, k, power)).append(power < 4 ? " " : ";");
            }
        }
        return text.toString();
    }

    static void row(RootFence x, int list, int... values) {
        x.list(list, values.length);
        for (int i = 0; i < values.length; i++) {
            x.set(list, i, values[i]);
        }
    }
}
