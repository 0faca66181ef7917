/**
 * Part 1 of the terms, number by number: its first value, its bounds, one inside and one outside each of them; and what
 * the game makes of a number that stands at a bound. Each method bears the sentence that it holds.
 */
public final class BoundsTest {
    private static final int NONE = -1, OUTSIDE = -1002, NOT = -1003, FULL = -1004;

    private interface Number {
        int becomes(int v);
    }

    public static void main(String[] args) {
        firstValuesAndBounds();
        allAsAtFirst();
        lengthOfThePath();
        places();
        spotsAtTheEnds();
        spotsBeyondThePath();
        depths();
        costs();
        ranges();
        powers();
        rests();
        healths();
        paces();
        prizes();
        armours();
        coins();
        lives();
        waves();
        upToEightCreeps();
        ticksBehind();
        clearing();
        bound();
        Check.end();
    }

    private static void bounds(String name, Number number, int low, int high, int first) {
        Check.due(name + ", first", number.becomes(first), first);
        refused(name, number, low - 1, first);
        refused(name, number, high + 1, first);
        Check.due(name + " to its least", number.becomes(low), first);
        refused(name, number, low - 1, low);
        Check.due(name + " one above its least", number.becomes(low + 1), low);
        Check.due(name + " one below its most", number.becomes(high - 1), low + 1);
        Check.due(name + " to its most", number.becomes(high), high - 1);
        refused(name, number, high + 1, high);
        refused(name, number, Integer.MIN_VALUE, high);
        refused(name, number, Integer.MAX_VALUE, high);
    }

    private static void refused(String name, Number number, int v, int before) {
        Check.due(name + " to " + v, number.becomes(v), OUTSIDE);
        Check.due(name + " behind the refused " + v, number.becomes(before), before);
    }

    private static void firstValuesAndBounds() {
        TowersAndWaves x = new TowersAndWaves();
        String[] rules = {"L", "P", "W", "COINS", "LIVES", "BOUND"};
        int[][] ruleBounds = {{4, 16, 8}, {1, 4, 2}, {1, 4, 1}, {0, 100, 20}, {1, 20, 5}, {50, 500, 300}};
        for (int what = 0; what < 6; what++) {
            int w = what;
            bounds(rules[w], v -> x.rule(w, v), ruleBounds[w][0], ruleBounds[w][1], ruleBounds[w][2]);
        }
        // on an object of 8 cells and 2 places: neither bounds what a spot may be
        TowersAndWaves y = new TowersAndWaves();
        int[] spots = {2, 5, 3, 6};
        for (int place = 0; place < 4; place++) {
            int k = place;
            bounds("SPOT " + k, v -> y.spot(k, 0, v), 0, 15, spots[k]);
            bounds("DEPTH " + k, v -> y.spot(k, 1, v), 0, 3, 1);
        }
        ofKinds("TOWER", new String[] {"COST", "RANGE", "POWER", "REST"}, TowersAndWaves::tower,
            new int[][] {{1, 50}, {0, 8}, {1, 30}, {1, 6}}, new int[][] {{10, 1, 3, 1}, {15, 2, 4, 2}, {25, 3, 10, 3}});
        ofKinds("CREEP", new String[] {"HEALTH", "PACE", "PRIZE", "ARMOUR"}, TowersAndWaves::creep,
            new int[][] {{1, 200}, {1, 5}, {0, 20}, {0, 10}}, new int[][] {{10, 2, 2, 0}, {20, 3, 5, 1}, {6, 1, 1, 0}});
    }

    private interface OfKind {
        int becomes(TowersAndWaves x, int kind, int what, int v);
    }

    private static void ofKinds(String of, String[] names, OfKind number, int[][] bounds, int[][] first) {
        TowersAndWaves x = new TowersAndWaves();
        for (int kind = 0; kind < 3; kind++) {
            for (int what = 0; what < 4; what++) {
                int k = kind;
                int w = what;
                bounds(of + " " + k + " " + names[w], v -> number.becomes(x, k, w, v), bounds[w][0], bounds[w][1],
                    first[k][w]);
            }
        }
    }

    /** "All as at first." "All WAVES are empty at first." */
    private static void allAsAtFirst() {
        TowersAndWaves used = new TowersAndWaves();
        used.rule(3, 0);
        used.send(0, 1, 1);
        used.buy(0, 0, 0, 0);
        TowersAndWaves x = new TowersAndWaves();
        int[] play = {1, 5, 20, 0, 0, 0, 0};
        for (int what = 0; what < play.length; what++) {
            Check.due("new: play(" + what + ")", x.play(what), play[what]);
        }
        int[] during = {5, 20, 0, NONE, NONE, NONE, NONE};
        for (int what = 0; what < during.length; what++) {
            Check.due("new: during(0, " + what + ")", x.during(0, what), during[what]);
            Check.due("new: during(1, " + what + ")", x.during(1, what), NOT);
        }
        int[] best = {1, 5, 20, 43, 0, 5, 43};
        for (int what = 0; what < best.length; what++) {
            Check.due("new: best(" + what + ")", x.best(what), best[what]);
        }
        for (int wave = 0; wave < 4; wave++) {
            Check.due("new: wave " + wave + " is empty", x.clear(wave), 0);
        }
        Check.due("new: lost()", x.lost(), NONE);
    }

    /** Kind 2 goes a cell a tick; all towers cost 1, and the coins are 100. */
    private static TowersAndWaves game(int length) {
        TowersAndWaves x = new TowersAndWaves();
        x.rule(0, length);
        x.rule(3, 100);
        for (int kind = 0; kind < 3; kind++) {
            x.tower(kind, 0, 1);
        }
        x.creep(2, 0, 200);
        x.send(0, 2, 0);
        return x;
    }

    /** A tower of kind 0 at place 0 that hits each tick, within reach cells of the spot. */
    private static TowersAndWaves watch(int length, int spot, int reach) {
        TowersAndWaves x = game(length);
        x.spot(0, 0, spot);
        x.spot(0, 1, 0);
        x.tower(0, 1, reach);
        x.buy(0, 0, 0, 0);
        return x;
    }

    /** "THE PATH has CELLS 0 to L - 1 (L 4 .. 16)": come at tick 0, through at tick L. */
    private static void lengthOfThePath() {
        for (int length : new int[] {4, 5, 8, 15, 16}) {
            TowersAndWaves x = game(length);
            Check.due("TICKS on " + length + " CELLS", x.play(3), length + 1);
            Check.due("through on " + length + " CELLS", x.play(5), 1);
            x = watch(length, Math.min(length, 15), 0);
            Check.due("CELL L of " + length + " is none", x.play(6), length == 16 ? 1 : 0);
            x.spot(0, 0, length - 1);
            Check.due("CELL L - 1 of " + length, x.play(6), 1);
        }
    }

    /** "PLACES 0 to P - 1 (P 1 .. 4)": 1 and 3 P and 9 P P ways; "(PLACES beyond P buy nothing.)" */
    private static void places() {
        int[] ways = {13, 43, 91, 157};
        for (int p = 1; p <= 4; p++) {
            TowersAndWaves x = game(8);
            x.rule(1, p);
            Check.due("LOOKS with P " + p, x.best(3), ways[p - 1]);
            for (int place = 0; place < 4; place++) {
                x.idle();
                Check.due("buy at PLACE " + place, x.buy(0, 0, place, 1), 1);
                Check.due("COINS, P " + p + " and PLACE " + place, x.play(2), place < p ? 99 : 100);
                Check.due("the KIND there", x.during(0, 3 + place), place < p ? 1 : NONE);
            }
        }
    }

    /** "PLACE k is at CELL SPOT k (0 .. 15": at 0 it is passed in ticks 0 and 1, else in one. */
    private static void spotsAtTheEnds() {
        for (int spot = 0; spot <= 15; spot++) {
            Check.due("hits at SPOT " + spot, watch(16, spot, 0).play(6), spot == 0 ? 2 : 1);
        }
    }

    /** "(SPOTS beyond the PATH reach as told all the same.)" */
    private static void spotsBeyondThePath() {
        Check.due("SPOT 4 beside CELLS 0 to 3, reach 0", watch(4, 4, 0).play(6), 0);
        Check.due("SPOT 4 beside CELLS 0 to 3, reach 1", watch(4, 4, 1).play(6), 1);
        Check.due("SPOT 10, reach 8: CELLS 2, 3", watch(4, 10, 8).play(6), 2);
        Check.due("SPOT 11, reach 8: CELL 3", watch(4, 11, 8).play(6), 1);
        Check.due("SPOT 12, reach 8: none", watch(4, 12, 8).play(6), 0);
        Check.due("SPOT 15, reach 8: none", watch(4, 15, 8).play(6), 0);
        Check.due("SPOT 15, reach 8, CELLS to 7", watch(8, 15, 8).play(6), 1);
    }

    /** "DEPTH k (0 .. 3; first 1 each) beside it": the reach is 8, 7, 6, 5 cells to each side of cell 8. */
    private static void depths() {
        int[] hits = {17, 15, 13, 11};
        for (int depth = 0; depth <= 3; depth++) {
            TowersAndWaves x = watch(16, 8, 8);
            x.spot(0, 1, depth);
            Check.due("hits at DEPTH " + depth, x.play(6), hits[depth]);
        }
    }

    /** "0 COST (1 .. 50": 1 and 50 are asked for. */
    private static void costs() {
        for (int cost : new int[] {1, 2, 49, 50}) {
            for (int kind = 0; kind < 3; kind++) {
                TowersAndWaves x = new TowersAndWaves();
                x.rule(3, 50);
                x.tower(kind, 0, cost);
                x.buy(0, 0, 0, kind);
                Check.due("COINS behind a COST of " + cost, x.play(2), 50 - cost);
            }
        }
    }

    /** "1 RANGE (0 .. 8": at cell 8, a depth of 0. */
    private static void ranges() {
        for (int range = 0; range <= 8; range++) {
            // cells 8 - range to 8 + range, of which cell 0 is passed in two ticks and cell 16 is none
            Check.due("hits with RANGE " + range, watch(16, 8, range).play(6), 2 * range + 1);
        }
    }

    /** "2 POWER (1 .. 30": a creep that is hit three times. */
    private static void powers() {
        int[][] powerHealthDead = {{1, 3, 1}, {1, 4, 0}, {29, 87, 1}, {29, 88, 0}, {30, 90, 1}, {30, 91, 0}};
        for (int[] row : powerHealthDead) {
            TowersAndWaves x = watch(16, 8, 1);
            x.tower(0, 2, row[0]);
            x.creep(2, 0, row[1]);
            Check.due("dead of POWER " + row[0] + " with HEALTH " + row[1], x.play(4), row[2]);
            Check.due("hits", x.play(6), 3);
        }
    }

    /** "3 REST (1 .. 6": in reach for the ticks 0 to 16. */
    private static void rests() {
        int[] hits = {17, 9, 6, 5, 4, 3};
        for (int rest = 1; rest <= 6; rest++) {
            TowersAndWaves x = watch(16, 8, 8);
            x.tower(0, 3, rest);
            x.tower(0, 2, 1);
            Check.due("hits with REST " + rest, x.play(6), hits[rest - 1]);
        }
    }

    /** "0 HEALTH (1 .. 200" */
    private static void healths() {
        TowersAndWaves x = watch(16, 8, 8);
        x.tower(0, 2, 1);
        x.creep(2, 0, 1);
        Check.due("HEALTH 1: hits", x.play(6), 1);
        x.creep(2, 0, 2);
        Check.due("HEALTH 2: hits", x.play(6), 2);
        x.tower(0, 2, 20);
        x.creep(2, 0, 199);
        Check.due("HEALTH 199: hits", x.play(6), 10);
        x.creep(2, 0, 200);
        Check.due("HEALTH 200: hits", x.play(6), 10);
        x.tower(0, 2, 19);
        Check.due("HEALTH 200 of POWER 19: hits", x.play(6), 11);
    }

    /** "1 PACE (1 .. 5": through at tick L PACE. */
    private static void paces() {
        for (int pace = 1; pace <= 5; pace++) {
            TowersAndWaves x = game(16);
            x.creep(2, 1, pace);
            Check.due("TICKS with PACE " + pace, x.play(3), 16 * pace + 1);
            x.rule(0, 4);
            Check.due("TICKS with PACE " + pace, x.play(3), 4 * pace + 1);
        }
    }

    /** "2 PRIZE (0 .. 20" */
    private static void prizes() {
        for (int prize : new int[] {0, 1, 19, 20}) {
            TowersAndWaves x = watch(16, 8, 8);
            x.creep(2, 0, 1);
            x.creep(2, 2, prize);
            Check.due("COINS with PRIZE " + prize, x.play(2), 99 + prize);
        }
    }

    /** "3 ARMOUR (0 .. 10": of power 30 in three hits. */
    private static void armours() {
        for (int armour : new int[] {0, 1, 9, 10}) {
            TowersAndWaves x = watch(16, 8, 1);
            x.tower(0, 2, 30);
            x.creep(2, 3, armour);
            x.creep(2, 0, 3 * (30 - armour));
            Check.due("dead with ARMOUR " + armour, x.play(4), 1);
            x.creep(2, 0, 3 * (30 - armour) + 1);
            Check.due("one HEALTH more", x.play(4), 0);
        }
    }

    /** "COINS at the beginning (0 .. 100": what comes later may lie above. */
    private static void coins() {
        TowersAndWaves x = game(8);
        for (int coins : new int[] {0, 1, 99, 100}) {
            x.rule(3, coins);
            Check.due("COINS", x.play(2), coins);
            Check.due("COINS behind", x.during(0, 1), coins);
            Check.due("COINS of the best", x.best(2), coins);
        }
        x = watch(16, 8, 8);
        x.rule(2, 4);
        x.creep(2, 0, 1);
        x.creep(2, 2, 20);
        x.clear(0);
        for (int i = 0; i < 32; i++) {
            x.send(i / 8, 2, 1);
        }
        // 32 dead of 20 each
        Check.due("COINS above 100", x.play(2), 99 + 32 * 20);
        Check.due("COINS behind WAVE 0", x.during(0, 1), 99 + 160);
        Check.due("COINS behind WAVE 3", x.during(3, 1), 99 + 640);
        Check.due("COINS of the best", x.best(2), 99 + 640);
    }

    /** "LIVES (1 .. 20" */
    private static void lives() {
        TowersAndWaves x = new TowersAndWaves();
        x.rule(2, 3);
        for (int i = 0; i < 19; i++) {
            x.send(i / 8, 2, 0);
        }
        x.rule(4, 20);
        Check.due("20 LIVES for 19 that are through", x.play(1), 1);
        Check.due("WAVES passed", x.play(0), 3);
        x.rule(4, 19);
        Check.due("19 LIVES for 19 that are through", x.play(1), 0);
        Check.due("WAVES passed", x.play(0), 2);
        x.rule(4, 1);
        Check.due("1 LIFE", x.play(0), 0);
        x.clear(0);
        x.clear(1);
        x.clear(2);
        Check.due("1 LIFE, none through", x.play(1), 1);
        x.send(0, 2, 0);
        Check.due("1 LIFE for 1", x.play(1), 0);
        x.rule(4, 2);
        Check.due("2 LIVES for 1", x.play(1), 1);
    }

    /** "WAVES 0 to W - 1 (W 1 .. 4": a wave beyond is not come to, and what was sent to it stays. */
    private static void waves() {
        TowersAndWaves x = new TowersAndWaves();
        for (int wave = 0; wave < 4; wave++) {
            x.send(wave, 2, 0);
        }
        for (int w = 1; w <= 4; w++) {
            x.rule(2, w);
            Check.due("WAVES passed of " + w, x.play(0), w);
            Check.due("through in " + w, x.play(5), w);
            Check.due("WAVES of the best", x.best(0), w);
            for (int wave = 0; wave < 4; wave++) {
                Check.due("LIVES behind WAVE " + wave + " of " + w, x.during(wave, 0), wave < w ? 4 - wave : NOT);
            }
        }
        x.rule(2, 1);
        Check.due("WAVE 3 has its CREEP yet", x.clear(3), 1);
    }

    /** "rows of up to 8 CREEPS": FULL, and how many it has. */
    private static void upToEightCreeps() {
        for (int wave = 0; wave < 4; wave++) {
            TowersAndWaves x = new TowersAndWaves();
            x.rule(2, 4);
            x.rule(4, 20);
            for (int i = 1; i <= 8; i++) {
                Check.due("CREEP " + i + " of WAVE " + wave, x.send(wave, 2, 0), i);
                Check.due("LIVES behind it", x.during(wave, 0), 20 - i);
            }
            Check.due("a ninth", x.send(wave, 2, 0), FULL);
            Check.due("through behind the ninth", x.play(5), 8);
            Check.due("another WAVE is not full", x.send((wave + 1) % 4, 2, 0), 1);
            Check.due("clear of a full WAVE", x.clear(wave), 8);
            Check.due("one again", x.send(wave, 2, 0), 1);
        }
    }

    /** "some TICKS (0 .. 9) behind the one ahead of it (the first: behind the WAVE's beginning)" */
    private static void ticksBehind() {
        for (int ticks : new int[] {0, 1, 8, 9}) {
            TowersAndWaves x = new TowersAndWaves();
            x.rule(4, 20);
            for (int i = 1; i <= 8; i++) {
                x.send(0, 2, ticks);
                // the last comes at i times so many ticks, and is through 8 ticks later
                Check.due(i + " CREEPS, each " + ticks + " behind", x.play(3), i * ticks + 9);
            }
            x.rule(0, 16);
            x.creep(2, 1, 5);
            Check.due("the slowest on the longest PATH", x.play(3), 8 * ticks + 81);
            Check.due("through", x.play(5), 8);
            x.send(1, 2, ticks);
            x.rule(2, 2);
            Check.due("a WAVE's beginning is its own", x.during(1, 2), ticks + 81);
        }
    }

    /** "A WAVE is empty: how many it had." */
    private static void clearing() {
        for (int had = 0; had <= 8; had++) {
            TowersAndWaves x = new TowersAndWaves();
            x.send(3, 0, 0);
            for (int i = 0; i < had; i++) {
                x.send(2, 1, 3);
            }
            Check.due("clear of " + had, x.clear(2), had);
            Check.due("clear of none", x.clear(2), 0);
            Check.due("one is sent behind it", x.send(2, 0, 0), 1);
            Check.due("the other WAVES are as they were", x.clear(3), 1);
        }
    }

    /** "BOUND (50 .. 500": four waves of four places are never done. */
    private static void bound() {
        TowersAndWaves x = new TowersAndWaves();
        x.rule(1, 4);
        x.rule(2, 4);
        for (int bound : new int[] {50, 51, 499, 500}) {
            x.rule(5, bound);
            Check.due("LOOKS", x.best(3), bound);
            Check.due("SPENT", x.best(4), 1);
        }
    }
}
