import java.util.Map;
import java.util.Random;
import java.util.TreeMap;

/** All promises: long runs of calls, drawn from a fixed seed, answered by the class as the plain model answers them. */
public final class ModelTest {
    private static final int RUNS = 400;
    private static final int CALLS = 120;
    /** With those that set the game up no more than the 512 that an object is used for. */
    private static final int CALLS_OF_A_LONG_RUN = 490;
    private static final int[] FAR = {Integer.MIN_VALUE, -1001, -2, -1, 4, 9, 10, 16, 1 << 30, Integer.MAX_VALUE};
    private static final String[] NAMES = {"rule", "spot", "tower", "creep", "send", "clear", "buy", "idle", "play",
        "during", "best", "bought", "take", "lost", "least", "hurts"};

    private final Random random;
    private final TowersAndWaves x = new TowersAndWaves();
    private final Model m = new Model();
    private final Map<String, Integer> seen;
    private final StringBuilder calls = new StringBuilder();

    private ModelTest(long seed, Map<String, Integer> seen) {
        this.random = new Random(seed);
        this.seen = seen;
    }

    public static void main(String[] args) {
        Map<String, Integer> seen = new TreeMap<>();
        for (int run = 0; run < RUNS; run++) {
            new ModelTest(run, seen).run(run);
        }
        // a run of calls that never comes to these would show nothing about them
        for (String answer : new String[] {"hurts 1", "hurts 0", "hurts -1", "least 0", "least 1", "least 10", "least -1",
            "lost -1", "lost 0", "lost 3", "send -1004", "during -1003", "spent", "won", "lost in all lines"}) {
            Check.that("the runs come to " + answer, seen.getOrDefault(answer, 0) > 0);
        }
        for (String name : NAMES) {
            Check.that("the runs call " + name, seen.getOrDefault(name, 0) > RUNS / 2);
        }
        Check.end();
    }

    private void run(int run) {
        setUp();
        boolean same = true;
        int most = run % 40 == 0 ? CALLS_OF_A_LONG_RUN : CALLS;
        for (int i = 0; i < most && same; i++) {
            same = run % 4 == 1 && random.nextInt(4) == 0 ? callAtABound() : call();
        }
        Check.that("run " + run + " answers as the model does: " + calls, same);
    }

    /** Games that are neither hopeless nor won by doing nothing. */
    private void setUp() {
        rule(0, 4 + random.nextInt(8));
        rule(1, 1 + random.nextInt(4));
        rule(2, 1 + random.nextInt(4));
        rule(3, random.nextInt(60));
        rule(4, 1 + random.nextInt(5));
        rule(5, 50 + random.nextInt(random.nextInt(4) == 0 ? 451 : 100));
        for (int i = random.nextInt(12); i >= 0; i--) {
            int wave = random.nextInt(4);
            int kind = random.nextInt(3);
            int ticks = random.nextInt(4);
            x.send(wave, kind, ticks);
            m.send(wave, kind, ticks);
        }
    }

    private void rule(int what, int v) {
        x.rule(what, v);
        m.rule(what, v);
    }

    private int upTo(int most) {
        return random.nextInt(40) == 0 ? FAR[random.nextInt(FAR.length)] : random.nextInt(most + 1);
    }

    private boolean call() {
        switch (random.nextInt(24)) {
            case 0: return same(0, upTo(5), random.nextInt(3) == 0 ? upTo(510) : upTo(20));
            case 1: return same(1, upTo(3), upTo(1), upTo(random.nextBoolean() ? 16 : 3));
            case 2: return same(2, upTo(2), upTo(3), upTo(random.nextInt(4) == 0 ? 51 : 8));
            case 3: return same(3, upTo(2), upTo(3), upTo(random.nextInt(3) == 0 ? 60 : 8));
            case 4: case 5: return same(4, upTo(3), upTo(2), upTo(9));
            case 6: return random.nextInt(3) > 0 || same(5, upTo(3));
            case 7: case 8: case 9: return same(6, upTo(3), upTo(1), upTo(3), upTo(3) - 1);
            case 10: return random.nextInt(4) > 0 || same(7);
            case 11: case 12: return same(8, upTo(6));
            case 13: case 14: return same(9, upTo(3), upTo(6));
            case 15: case 16: case 17: return same(10, upTo(9));
            case 18: return same(11, upTo(3), upTo(1));
            case 19: return same(12);
            case 20: return same(13);
            case 21: return same(14, upTo(2), upTo(2), upTo(3));
            default: return same(15, upTo(2), upTo(2), upTo(3));
        }
    }

    /** A number becomes one of its bounds, or one more or one less than that. */
    private boolean callAtABound() {
        int what = random.nextInt(4);
        switch (random.nextInt(4)) {
            case 0: return atABound(0, Model.RULE_BOUNDS, random.nextInt(6));
            case 1: return atABound(1, Model.SPOT_BOUNDS, what % 2);
            case 2: return atABound(2, Model.TOWER_BOUNDS, what);
            default: return atABound(3, Model.CREEP_BOUNDS, what);
        }
    }

    private boolean atABound(int method, int[][] bounds, int what) {
        int v = bounds[what][random.nextInt(2)] + random.nextInt(3) - 1;
        return method == 0 ? same(0, what, v) : same(method, random.nextInt(method == 1 ? 4 : 3), what, v);
    }

    private boolean same(int method, int... a) {
        int got = ofClass(method, a);
        int want = ofModel(method, a);
        String name = NAMES[method];
        calls.append(name).append(java.util.Arrays.toString(a)).append('=').append(got).append(' ');
        count(name);
        count(name + " " + want);
        if (method == 10 && a[0] == 4 && want == 1) {
            count("spent");
        }
        if (method == 10 && a[0] == 5) {
            count(want == -1 ? "lost in all lines" : "won");
        }
        if (got != want) {
            calls.append("but due is ").append(want);
        }
        return got == want;
    }

    private void count(String what) {
        seen.merge(what, 1, Integer::sum);
    }

    private int ofClass(int method, int[] a) {
        switch (method) {
            case 0: return x.rule(a[0], a[1]);
            case 1: return x.spot(a[0], a[1], a[2]);
            case 2: return x.tower(a[0], a[1], a[2]);
            case 3: return x.creep(a[0], a[1], a[2]);
            case 4: return x.send(a[0], a[1], a[2]);
            case 5: return x.clear(a[0]);
            case 6: return x.buy(a[0], a[1], a[2], a[3]);
            case 7: return x.idle();
            case 8: return x.play(a[0]);
            case 9: return x.during(a[0], a[1]);
            case 10: return x.best(a[0]);
            case 11: return x.bought(a[0], a[1]);
            case 12: return x.take();
            case 13: return x.lost();
            case 14: return x.least(a[0], a[1], a[2]);
            default: return x.hurts(a[0], a[1], a[2]);
        }
    }

    private int ofModel(int method, int[] a) {
        switch (method) {
            case 0: return m.rule(a[0], a[1]);
            case 1: return m.spot(a[0], a[1], a[2]);
            case 2: return m.tower(a[0], a[1], a[2]);
            case 3: return m.creep(a[0], a[1], a[2]);
            case 4: return m.send(a[0], a[1], a[2]);
            case 5: return m.clear(a[0]);
            case 6: return m.buy(a[0], a[1], a[2], a[3]);
            case 7: return m.idle();
            case 8: return m.play(a[0]);
            case 9: return m.during(a[0], a[1]);
            case 10: return m.best(a[0]);
            case 11: return m.bought(a[0], a[1]);
            case 12: return m.take();
            case 13: return m.lost();
            case 14: return m.least(a[0], a[1], a[2]);
            default: return m.hurts(a[0], a[1], a[2]);
        }
    }
}
