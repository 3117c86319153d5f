import java.util.Random;

/**
 * Calls with any arguments in any state: none throws, and one that answers
 * BAD, NOTHING, BELOW, BEYOND, STATE, FULL, NOT or NO changes nothing.
 */
public final class WildTest {
    private static final Checks CHECKS = new Checks("WildTest");
    private static final Random RANDOM = new Random(11);
    private static final int[] EDGES = {Integer.MIN_VALUE, Integer.MIN_VALUE + 1, -1001, -1000, -999, -10, -9, -1, 0, 1,
        2, 3, 4, 5, 8, 9, 10, 11, 12, 24, 25, 119, 120, 127, 128, 512, 999, 1000, 1001, Integer.MAX_VALUE - 3, Integer.MAX_VALUE};
    private static final String[] WORDS = {"=", "x", "^", "2", "3", "-", "+", ";", "sum 0 1", "product 1 0", "part 0 2",
        "derive 0", "shift 1 -2", "=x^2-1", "=x^3-x", "=-2x+1", "rest 0 1", " ", "0", "free 0"};

    public static void main(String[] args) {
        int rounds = args.length > 0 ? Integer.parseInt(args[0]) : 9000;
        for (int round = 0; round < rounds; round++) {
            RootFence x = new RootFence();
            wild(x, RANDOM.nextInt(round % 8 == 0 ? 100 : 40));
            refused(x);
        }
        for (int round = 0; round < rounds / 30; round++) {
            wild(new RootFence(), 600);
        }
        CHECKS.end();
    }

    private static void wild(RootFence x, int calls) {
        for (int n = 0; n < calls; n++) {
            int call = RANDOM.nextInt(33);
            if (call == 31 || call == 32) {
                Checks.feed(x, WORDS[RANDOM.nextInt(WORDS.length)]);
            } else {
                call(x, call);
            }
        }
    }

    /** One more call: if it is refused, all stands as it stood. */
    private static void refused(RootFence x) {
        int call = RANDOM.nextInt(31);
        String before = Checks.wholeState(x);
        long answer = call(x, call);
        boolean refused = answer == Checks.NO || answer <= -1 && call != 4 && call != 5 && call < 14;
        boolean refusedLater = answer <= -1 && call >= 18 && call != 27 && call != 19;
        if (refused || refusedLater) {
            CHECKS.due("what is there after call " + call + " answered " + answer, Checks.wholeState(x), before);
        }
        if (call == 19) {
            CHECKS.due("the tape after reads()", x.count(1), 0);
        }
    }

    /** Mostly numbers that are told, for the calls to come far; some at the edges, some anywhere. */
    private static int any(int most) {
        int kind = RANDOM.nextInt(12);
        if (kind == 0) {
            return EDGES[RANDOM.nextInt(EDGES.length)];
        }
        return kind == 1 ? RANDOM.nextInt() : RANDOM.nextInt(most);
    }

    private static int point() {
        return any(2) == 0 ? any(1000) : -any(1000);
    }

    private static long call(RootFence x, int call) {
        switch (call) {
            case 0: return x.poly(any(9) - 4, any(9) - 4, any(9) - 4, any(9) - 4, any(3) - 1);
            case 1: return x.make(any(12), any(4), any(4));
            case 2: return x.drop();
            case 3: return x.number(any(4), any(5));
            case 4: return x.of(any(4), any(3));
            case 5: return x.value(any(4), point(), any(1000)) == Checks.NO ? Checks.NO : 0;
            case 6: return x.chain(any(4), any(4) - 1, any(5)) == Checks.NO ? Checks.NO : 0;
            case 7: return x.changes(any(4), point(), any(1000));
            case 8: return x.roots(any(4));
            case 9: return x.within(any(4), point(), any(1000), point(), any(1000));
            case 10: return x.bound(any(4));
            case 11: return x.fence(any(4), any(3), any(10), any(4)) == Checks.NO ? Checks.NO : 0;
            case 12: return x.times(any(4), any(3));
            case 13: return x.shared(any(4), any(4));
            case 14: return x.sign(any(4), any(3), any(4));
            case 15: return x.signs(any(4), any(4));
            case 16: return x.which(any(4), any(3), any(4), any(3));
            case 17: return x.fraction(any(4), any(3) - 1, any(2));
            case 18: return x.feed(any(128));
            case 19: return x.reads();
            case 20: return x.prints(any(4));
            case 21: return x.paper(any(20));
            case 22: return x.judge(any(4), any(4), any(10));
            case 23: return x.lots(any(13), any(4), any(10), RANDOM.nextInt());
            case 24: return x.list(any(4), any(25));
            case 25: return x.set(any(4), any(24), RANDOM.nextInt());
            case 26: return x.into(any(4), any(4), any(24));
            case 27: return x.get(any(4), any(24));
            case 28: return x.image();
            case 29: return x.back();
            default: return x.count(any(3));
        }
    }
}
