/** What the tests share: answers compared, wrong ones told, an end with exit code 1. */
final class Checks {
    static final int BAD = -1, NOT = -2, FULL = -3, STATE = -6;
    static final int NOTHING = -11, BEYOND = -13, BELOW = -14;
    static final long NO = Long.MIN_VALUE;

    private final String about;
    private int wrong = 0;
    private int asked = 0;

    Checks(String about) {
        this.about = about;
    }

    void due(String call, long got, long want) {
        asked++;
        if (got != want) {
            wrong++;
            if (wrong <= 40) {
                System.out.println(about + ": " + call + " answered " + got + ", due is " + want);
            }
        }
    }

    void due(String call, String got, String want) {
        asked++;
        if (!got.equals(want)) {
            wrong++;
            System.out.println(about + ": " + call + " answered " + got + ", due is " + want);
        }
    }

    void end() {
        System.out.println(about + ": " + asked + " answers, " + wrong + " wrong");
        if (wrong != 0 || asked == 0) {
            System.exit(1);
        }
    }

    /** A new object with the text's polynomials: each is fed and read by itself. */
    static RootFence with(String... polys) {
        RootFence x = new RootFence();
        for (String poly : polys) {
            if (read(x, "=" + poly) != 1) {
                throw new IllegalStateException(poly);
            }
        }
        return x;
    }

    static int read(RootFence x, String words) {
        feed(x, words);
        return x.reads();
    }

    static void feed(RootFence x, String words) {
        for (int i = 0; i < words.length(); i++) {
            x.feed(words.charAt(i));
        }
    }

    static String printed(RootFence x, int p) {
        int length = x.prints(p);
        StringBuilder text = new StringBuilder();
        for (int i = 0; i < length; i++) {
            text.append((char) x.paper(i));
        }
        return text.toString();
    }

    /** All polynomials as they stand, the tape's and the paper's length. */
    static String state(RootFence x) {
        StringBuilder text = new StringBuilder();
        for (int p = 0; p < x.count(0); p++) {
            for (int power = 0; power < 5; power++) {
                text.append(x.number(p, power)).append(',');
            }
            text.append(' ');
        }
        return text.append(x.count(1)).append('/').append(x.count(2)).toString();
    }

    static void row(RootFence x, int list, int... values) {
        x.list(list, values.length);
        for (int i = 0; i < values.length; i++) {
            x.set(list, i, values[i]);
        }
    }
}
