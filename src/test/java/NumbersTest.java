/** Promises 1 to 7: a new object, rule, spot, tower, creep, send, clear. */
public final class NumbersTest {
    private static final int NONE = -1, UNKNOWN = -1001, OUTSIDE = -1002, FULL = -1004;
    private static final int[] WRONG = {Integer.MIN_VALUE, -1, 1 << 30, Integer.MAX_VALUE};

    private static final int[][] RULES = {{4, 16, 8}, {1, 4, 2}, {1, 4, 1}, {0, 100, 20}, {1, 20, 5}, {50, 500, 300}};
    private static final int[][] SPOTS = {{0, 15}, {0, 3}};
    private static final int[][] SPOT_FIRST = {{2, 1}, {5, 1}, {3, 1}, {6, 1}};
    private static final int[][] TOWERS = {{1, 50}, {0, 8}, {1, 30}, {1, 6}};
    private static final int[][] TOWER_FIRST = {{10, 1, 3, 1}, {15, 2, 4, 2}, {25, 3, 10, 3}};
    private static final int[][] CREEPS = {{1, 200}, {1, 5}, {0, 20}, {0, 10}};
    private static final int[][] CREEP_FIRST = {{10, 2, 2, 0}, {20, 3, 5, 1}, {6, 1, 1, 0}};

    private interface Call {
        int with(int v);
    }

    public static void main(String[] args) {
        newObject();
        rules();
        spots();
        towers();
        creeps();
        waves();
        Check.end();
    }

    /** First what it was at first, then each bound, then what is beyond the bounds, which changes nothing. */
    private static void bounds(String name, Call call, int low, int high, int first) {
        Check.due(name + " to its least", call.with(low), first);
        Check.due(name + " to its most", call.with(high), low);
        Check.due(name + " below", call.with(low - 1), OUTSIDE);
        Check.due(name + " above", call.with(high + 1), OUTSIDE);
        Check.due(name + " far below", call.with(Integer.MIN_VALUE), OUTSIDE);
        Check.due(name + " far above", call.with(Integer.MAX_VALUE), OUTSIDE);
        Check.due(name + " was kept", call.with(first), high);
    }

    private static void newObject() {
        TowersAndWaves x = new TowersAndWaves();
        Check.due("new: WAVES passed", x.play(0), 1);
        Check.due("new: LIVES", x.play(1), 5);
        Check.due("new: COINS", x.play(2), 20);
        for (int what = 3; what <= 6; what++) {
            Check.due("new: play " + what, x.play(what), 0);
        }
        Check.due("new: LOOKS", x.best(3), 43);
        for (int wave = 0; wave < 4; wave++) {
            Check.due("new: clear", x.clear(wave), 0);
            Check.due("new: bought", x.bought(wave, 0), NONE);
        }
    }

    private static void rules() {
        TowersAndWaves x = new TowersAndWaves();
        for (int what = 0; what < 6; what++) {
            int w = what;
            bounds("rule " + what, v -> x.rule(w, v), RULES[what][0], RULES[what][1], RULES[what][2]);
        }
        Check.due("rule(6, 1)", x.rule(6, 1), OUTSIDE);
        for (int wrong : WRONG) {
            Check.due("rule of a wrong number", x.rule(wrong, 4), OUTSIDE);
        }
    }

    private static void spots() {
        TowersAndWaves x = new TowersAndWaves();
        for (int place = 0; place < 4; place++) {
            for (int what = 0; what < 2; what++) {
                int k = place;
                int w = what;
                bounds("spot " + k + " " + w, v -> x.spot(k, w, v), SPOTS[w][0], SPOTS[w][1], SPOT_FIRST[k][w]);
            }
        }
        Check.due("spot(4, 0, 0)", x.spot(4, 0, 0), OUTSIDE);
        Check.due("spot(0, 2, 0)", x.spot(0, 2, 0), OUTSIDE);
        for (int wrong : WRONG) {
            Check.due("spot of a wrong place", x.spot(wrong, 0, 0), OUTSIDE);
            Check.due("spot of a wrong number", x.spot(0, wrong, 0), OUTSIDE);
        }
    }

    private static void towers() {
        TowersAndWaves x = new TowersAndWaves();
        for (int kind = 0; kind < 3; kind++) {
            for (int what = 0; what < 4; what++) {
                int k = kind;
                int w = what;
                bounds("tower " + k + " " + w, v -> x.tower(k, w, v), TOWERS[w][0], TOWERS[w][1], TOWER_FIRST[k][w]);
            }
        }
        Check.due("tower(3, 0, 1)", x.tower(3, 0, 1), UNKNOWN);
        Check.due("tower(3, 4, 0)", x.tower(3, 4, 0), UNKNOWN);
        Check.due("tower(2, 4, 1)", x.tower(2, 4, 1), OUTSIDE);
        for (int wrong : WRONG) {
            Check.due("tower of a wrong kind", x.tower(wrong, 9, 0), UNKNOWN);
            Check.due("tower of a wrong number", x.tower(0, wrong, 1), OUTSIDE);
        }
    }

    private static void creeps() {
        TowersAndWaves x = new TowersAndWaves();
        for (int kind = 0; kind < 3; kind++) {
            for (int what = 0; what < 4; what++) {
                int k = kind;
                int w = what;
                bounds("creep " + k + " " + w, v -> x.creep(k, w, v), CREEPS[w][0], CREEPS[w][1], CREEP_FIRST[k][w]);
            }
        }
        Check.due("creep(3, 0, 1)", x.creep(3, 0, 1), UNKNOWN);
        Check.due("creep(-1, 4, 0)", x.creep(-1, 4, 0), UNKNOWN);
        Check.due("creep(0, 4, 1)", x.creep(0, 4, 1), OUTSIDE);
        for (int wrong : WRONG) {
            Check.due("creep of a wrong kind", x.creep(wrong, 9, 0), UNKNOWN);
            Check.due("creep of a wrong number", x.creep(0, wrong, 1), OUTSIDE);
        }
    }

    private static void waves() {
        TowersAndWaves x = new TowersAndWaves();
        for (int wave = 0; wave < 4; wave++) {
            for (int i = 1; i <= 8; i++) {
                Check.due("send", x.send(wave, i % 3, i == 1 ? 9 : 0), i);
            }
            Check.due("send to a full wave", x.send(wave, 0, 0), FULL);
            Check.due("send, OUTSIDE before FULL", x.send(wave, 0, 10), OUTSIDE);
            Check.due("send, UNKNOWN before OUTSIDE and FULL", x.send(wave, 3, 10), UNKNOWN);
        }
        Check.due("send(4, 0, 10)", x.send(4, 0, 10), UNKNOWN);
        Check.due("send(0, -1, 0)", x.send(0, -1, 0), UNKNOWN);
        Check.due("send(0, 0, -1)", x.send(0, 0, -1), OUTSIDE);
        for (int wrong : WRONG) {
            Check.due("send to a wrong wave", x.send(wrong, 0, 0), UNKNOWN);
            Check.due("send of a wrong kind", x.send(0, wrong, 0), UNKNOWN);
            Check.due("send so many ticks behind", x.send(0, 0, wrong), OUTSIDE);
            Check.due("clear of a wrong wave", x.clear(wrong), UNKNOWN);
        }
        Check.due("clear(4)", x.clear(4), UNKNOWN);
        Check.due("clear(1)", x.clear(1), 8);
        Check.due("clear(1) again", x.clear(1), 0);
        Check.due("clear(0) had all that was sent", x.clear(0), 8);
        Check.due("send to a cleared wave", x.send(1, 2, 3), 1);
        Check.due("clear(2)", x.clear(2), 8);
        Check.due("clear(3)", x.clear(3), 8);
    }
}
