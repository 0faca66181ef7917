import java.util.List;

/**
 * "REFUSALS, of several the first in this order: UNKNOWN (a KIND, PLACE, WAVE, LINE that there is not), OUTSIDE (another
 * number out of its bounds), NOT (not now, as told), FULL. What is refused changes nothing." Each refused call is made on
 * an object of its own, and all that can be seen behind it is compared with a twin on which it was not made.
 */
public final class RefusalTest {
    private static final int NONE = -1, UNKNOWN = -1001, OUTSIDE = -1002, NOT = -1003, FULL = -1004;
    private static final int LEAST = Integer.MIN_VALUE, MOST = Integer.MAX_VALUE;

    private static final int[][] RULES = {{4, 16}, {1, 4}, {1, 4}, {0, 100}, {1, 20}, {50, 500}};
    private static final int[][] SPOTS = {{0, 15}, {0, 3}};
    private static final int[][] TOWERS = {{1, 50}, {0, 8}, {1, 30}, {1, 6}};
    private static final int[][] CREEPS = {{1, 200}, {1, 5}, {0, 20}, {0, 10}};

    private interface Call {
        int on(TowersAndWaves x);
    }

    private final List<Integer> untouched = Look.at(prepared());

    public static void main(String[] args) {
        RefusalTest test = new RefusalTest();
        test.theTwinsAreSensitive();
        test.numbers();
        test.send();
        test.clear();
        test.buy();
        test.plays();
        test.allLines();
        test.changes();
        test.unknownBeforeOutside();
        test.outsideBeforeNot();
        test.beforeFull();
        Check.end();
    }

    /** Three of four waves are played, of which the last is lost; wave 0 is full; the line buys in each wave. */
    private static TowersAndWaves prepared() {
        TowersAndWaves x = new TowersAndWaves();
        x.rule(0, 6);
        x.rule(1, 3);
        x.rule(2, 4);
        x.rule(3, 40);
        x.rule(4, 8);
        x.rule(5, 120);
        x.creep(0, 2, 7);
        for (int i = 0; i < 8; i++) {
            x.send(0, i % 3, i == 0 ? 0 : 1);
        }
        x.send(1, 0, 3);
        for (int i = 0; i < 7; i++) {
            x.send(2, 1, 1);
        }
        x.send(3, 2, 9);
        x.buy(0, 0, 0, 0);
        x.buy(0, 1, 1, 1);
        x.buy(1, 0, 2, 0);
        x.buy(2, 1, 3, 2);
        x.buy(3, 0, 0, 1);
        x.buy(3, 1, 1, 0);
        return x;
    }

    private void refused(String call, int want, Call made) {
        TowersAndWaves x = prepared();
        Check.due(call, made.on(x), want);
        Check.that(call + " changes nothing", Look.at(x).equals(untouched));
    }

    private void taken(String call, Call made) {
        TowersAndWaves x = prepared();
        Check.that(call + " is taken", made.on(x) > NONE);
        Check.that(call + " is seen by the look", !Look.at(x).equals(untouched));
    }

    /** The look would be no look, if it did not tell a call that is taken. */
    private void theTwinsAreSensitive() {
        taken("rule(0, 7)", x -> x.rule(0, 7));
        taken("rule(5, 121)", x -> x.rule(5, 121));
        taken("spot(3, 0, 7)", x -> x.spot(3, 0, 7));
        taken("spot(3, 1, 2)", x -> x.spot(3, 1, 2));
        taken("tower(2, 3, 4)", x -> x.tower(2, 3, 4));
        taken("creep(2, 3, 1)", x -> x.creep(2, 3, 1));
        taken("send(3, 0, 0)", x -> x.send(3, 0, 0));
        taken("clear(3)", x -> x.clear(3));
        taken("buy(0, 0, 0, 1)", x -> x.buy(0, 0, 0, 1));
        taken("buy(3, 1, 1, NONE)", x -> x.buy(3, 1, 1, NONE));
        taken("buy(1, 1, 3, 0)", x -> x.buy(1, 1, 3, 0));
        taken("idle()", TowersAndWaves::idle);
        taken("take()", TowersAndWaves::take);
    }

    /** Each number one below its bounds, one above them, and as far off as can be. */
    private void numbers() {
        for (int what = 0; what < 6; what++) {
            int w = what;
            for (int v : beyond(RULES[what])) {
                refused("rule(" + w + ", " + v + ")", OUTSIDE, x -> x.rule(w, v));
            }
        }
        for (int what = 0; what < 2; what++) {
            for (int place = 0; place < 4; place++) {
                int k = place;
                int w = what;
                for (int v : beyond(SPOTS[what])) {
                    refused("spot(" + k + ", " + w + ", " + v + ")", OUTSIDE, x -> x.spot(k, w, v));
                }
            }
        }
        for (int what = 0; what < 4; what++) {
            for (int kind = 0; kind < 3; kind++) {
                int k = kind;
                int w = what;
                for (int v : beyond(TOWERS[what])) {
                    refused("tower(" + k + ", " + w + ", " + v + ")", OUTSIDE, x -> x.tower(k, w, v));
                }
                for (int v : beyond(CREEPS[what])) {
                    refused("creep(" + k + ", " + w + ", " + v + ")", OUTSIDE, x -> x.creep(k, w, v));
                }
            }
        }
        for (int what : new int[] {-1, 6, LEAST, MOST}) {
            refused("rule(" + what + ", 4)", OUTSIDE, x -> x.rule(what, 4));
        }
        for (int what : new int[] {-1, 2, LEAST, MOST}) {
            refused("spot(0, " + what + ", 1)", OUTSIDE, x -> x.spot(0, what, 1));
        }
        for (int k : new int[] {-1, 4, LEAST, MOST}) {
            refused("spot(" + k + ", 0, 1)", OUTSIDE, x -> x.spot(k, 0, 1));
            refused("tower(1, " + k + ", 2)", OUTSIDE, x -> x.tower(1, k, 2));
            refused("creep(1, " + k + ", 2)", OUTSIDE, x -> x.creep(1, k, 2));
        }
        for (int kind : new int[] {-1, 3, LEAST, MOST}) {
            refused("tower(" + kind + ", 0, 2)", UNKNOWN, x -> x.tower(kind, 0, 2));
            refused("creep(" + kind + ", 0, 2)", UNKNOWN, x -> x.creep(kind, 0, 2));
        }
    }

    private static int[] beyond(int[] bounds) {
        return new int[] {bounds[0] - 1, bounds[1] + 1, LEAST, MOST};
    }

    private void send() {
        for (int wave : new int[] {-1, 4, LEAST, MOST}) {
            refused("send(" + wave + ", 0, 0)", UNKNOWN, x -> x.send(wave, 0, 0));
        }
        for (int kind : new int[] {-1, 3, LEAST, MOST}) {
            refused("send(1, " + kind + ", 0)", UNKNOWN, x -> x.send(1, kind, 0));
        }
        for (int ticks : new int[] {-1, 10, LEAST, MOST}) {
            refused("send(1, 0, " + ticks + ")", OUTSIDE, x -> x.send(1, 0, ticks));
        }
        refused("send to a full wave", FULL, x -> x.send(0, 0, 0));
        refused("send to a full wave", FULL, x -> x.send(0, 2, 9));
    }

    private void clear() {
        for (int wave : new int[] {-1, 4, LEAST, MOST}) {
            refused("clear(" + wave + ")", UNKNOWN, x -> x.clear(wave));
        }
    }

    private void buy() {
        for (int v : new int[] {-1, 4, LEAST, MOST}) {
            refused("buy in wave " + v, UNKNOWN, x -> x.buy(v, 0, 1, 2));
            refused("buy nothing in wave " + v, UNKNOWN, x -> x.buy(v, 0, 1, NONE));
            refused("buy at place " + v, UNKNOWN, x -> x.buy(0, 0, v, 2));
            refused("buy nothing at place " + v, UNKNOWN, x -> x.buy(0, 0, v, NONE));
        }
        for (int kind : new int[] {-2, 3, LEAST, MOST}) {
            refused("buy kind " + kind, UNKNOWN, x -> x.buy(0, 0, 1, kind));
        }
        for (int b : new int[] {-1, 2, LEAST, MOST}) {
            refused("buy " + b, OUTSIDE, x -> x.buy(1, b, 1, 2));
            refused("buy nothing as buy " + b, OUTSIDE, x -> x.buy(1, b, 1, NONE));
        }
    }

    private void plays() {
        for (int what : new int[] {-1, 7, LEAST, MOST}) {
            refused("play(" + what + ")", OUTSIDE, x -> x.play(what));
            refused("during(0, " + what + ")", OUTSIDE, x -> x.during(0, what));
        }
        for (int wave : new int[] {-1, 4, LEAST, MOST}) {
            refused("during(" + wave + ", 0)", UNKNOWN, x -> x.during(wave, 0));
        }
        for (int w = 0; w <= 6; w++) {
            int what = w;
            refused("during(3, " + what + ")", NOT, x -> x.during(3, what));
        }
    }

    private void allLines() {
        for (int what : new int[] {-1, 10, LEAST, MOST}) {
            refused("best(" + what + ")", OUTSIDE, x -> x.best(what));
        }
        for (int wave : new int[] {-1, 4, LEAST, MOST}) {
            refused("bought(" + wave + ", 0)", UNKNOWN, x -> x.bought(wave, 0));
        }
        for (int b : new int[] {-1, 2, LEAST, MOST}) {
            refused("bought(0, " + b + ")", OUTSIDE, x -> x.bought(0, b));
            refused("bought(3, " + b + ")", OUTSIDE, x -> x.bought(3, b));
        }
    }

    private void changes() {
        for (int v : new int[] {-1, 4, LEAST, MOST}) {
            refusedChange(v, 0, 0, OUTSIDE);
            refusedChange(0, 1, v, OUTSIDE);
            refusedChange(1, 1, v, OUTSIDE);
            refusedChange(2, 0, v, OUTSIDE);
            refusedChange(0, v, 0, UNKNOWN);
            refusedChange(1, v, 0, UNKNOWN);
        }
        refusedChange(3, 0, 0, OUTSIDE);
        refusedChange(2, 0, 2, OUTSIDE);
        refusedChange(2, 0, 3, OUTSIDE);
        refusedChange(0, 3, 0, UNKNOWN);
        refusedChange(1, 3, 0, UNKNOWN);
    }

    private void refusedChange(int of, int kind, int what, int want) {
        String args = "(" + of + ", " + kind + ", " + what + ")";
        refused("least" + args, want, x -> x.least(of, kind, what));
        refused("hurts" + args, want, x -> x.hurts(of, kind, what));
    }

    private void unknownBeforeOutside() {
        refused("tower(3, 4, 0)", UNKNOWN, x -> x.tower(3, 4, 0));
        refused("tower(-1, 0, 51)", UNKNOWN, x -> x.tower(-1, 0, 51));
        refused("creep(3, 4, 0)", UNKNOWN, x -> x.creep(3, 4, 0));
        refused("creep(-1, 0, 201)", UNKNOWN, x -> x.creep(-1, 0, 201));
        refused("send(4, 0, 10)", UNKNOWN, x -> x.send(4, 0, 10));
        refused("send(1, 3, -1)", UNKNOWN, x -> x.send(1, 3, -1));
        refused("buy(4, 2, 0, 0)", UNKNOWN, x -> x.buy(4, 2, 0, 0));
        refused("buy(0, 2, 4, 0)", UNKNOWN, x -> x.buy(0, 2, 4, 0));
        refused("buy(0, -1, 0, 3)", UNKNOWN, x -> x.buy(0, -1, 0, 3));
        refused("during(4, 7)", UNKNOWN, x -> x.during(4, 7));
        refused("during(-1, -1)", UNKNOWN, x -> x.during(-1, -1));
        refused("bought(4, 2)", UNKNOWN, x -> x.bought(4, 2));
        refused("bought(-1, -1)", UNKNOWN, x -> x.bought(-1, -1));
        refusedChange(0, 3, 4, UNKNOWN);
        refusedChange(1, -1, -1, UNKNOWN);
    }

    private void outsideBeforeNot() {
        refused("during(3, 7)", OUTSIDE, x -> x.during(3, 7));
        refused("during(3, -1)", OUTSIDE, x -> x.during(3, -1));
    }

    private void beforeFull() {
        refused("send(0, 3, 0), full", UNKNOWN, x -> x.send(0, 3, 0));
        refused("send(0, -1, 10), full", UNKNOWN, x -> x.send(0, -1, 10));
        refused("send(0, 0, 10), full", OUTSIDE, x -> x.send(0, 0, 10));
        refused("send(0, 0, -1), full", OUTSIDE, x -> x.send(0, 0, -1));
    }
}
