import java.util.List;

/** Part 3 of the terms, THE LEAST CHANGE and HURTS, edge by edge: each method bears the sentence that it holds. */
public final class ChangeEdgesTest {
    private static final int NONE = -1;
    private static final int TOWER = 0, CREEP = 1, RULE = 2;
    private static final int[][] MOST = {{50, 8, 30, 6}, {200, 5, 20, 10}, {100, 20}};
    private static final int[][] LEAST = {{1, 0, 1, 1}, {1, 1, 0, 0}, {0, 1}};

    public static void main(String[] args) {
        leastLives();
        leastLivesWithinBounds();
        leastCoins();
        leastCoinsWithinBounds();
        leastPower();
        leastRange();
        leastPace();
        leastPrize();
        leastHelpsNot();
        leastOfOtherKinds();
        leastAtTheBound();
        leastTillSpent();
        kindIsNotLookedAt();
        hurtsAtTheBound();
        hurtsByWaves();
        hurtsByLives();
        coinsDoNotHurt();
        rangeThatHurts();
        livesThatHurt();
        nothingIsChanged();
        Check.end();
    }

    /** One place; a tower of kind 0 there, for 10 of 10 coins, hits each tick what is at cell 0; other kinds are no good. */
    private static TowersAndWaves gate(int power) {
        TowersAndWaves x = new TowersAndWaves();
        x.rule(1, 1);
        x.rule(3, 10);
        x.rule(4, 1);
        x.spot(0, 0, 0);
        x.spot(0, 1, 0);
        x.tower(0, 1, 0);
        x.tower(0, 2, power);
        for (int kind = 1; kind < 3; kind++) {
            x.tower(kind, 0, 50);
            x.tower(kind, 1, 0);
            x.tower(kind, 2, 1);
        }
        return x;
    }

    private static int put(TowersAndWaves x, int of, int kind, int what, int v) {
        if (of == RULE) {
            return x.rule(3 + what, v);
        }
        return of == TOWER ? x.tower(kind, what, v) : x.creep(kind, what, v);
    }

    /** So many creeps go through whatever is bought. */
    private static TowersAndWaves flood(int creeps) {
        TowersAndWaves x = new TowersAndWaves();
        x.rule(1, 1);
        x.rule(2, 4);
        x.rule(3, 0);
        for (int i = 0; i < creeps; i++) {
            x.send(i / 8, 2, 0);
        }
        return x;
    }

    /** "the least k (0 .. 10) so that with k more of it .. there is a WINNER; NONE" */
    private static void leastLives() {
        for (int creeps = 0; creeps <= 12; creeps++) {
            TowersAndWaves x = flood(creeps);
            for (int lives = 1; lives <= 4; lives++) {
                x.rule(4, lives);
                int k = Math.max(0, creeps + 1 - lives);
                Check.due(creeps + " CREEPS, LIVES " + lives, x.least(RULE, 0, 1), k <= 10 ? k : NONE);
            }
        }
    }

    /** "with k more of it (within its bounds)": 20 lives at most. */
    private static void leastLivesWithinBounds() {
        TowersAndWaves x = flood(19);
        x.rule(4, 15);
        Check.due("5 more are 20", x.least(RULE, 0, 1), 5);
        x.rule(4, 10);
        Check.due("10 more are 20", x.least(RULE, 0, 1), 10);
        x.rule(4, 9);
        Check.due("11 more would be 20", x.least(RULE, 0, 1), NONE);
        x.rule(4, 20);
        Check.due("0 more are 20", x.least(RULE, 0, 1), 0);
        x.send(3, 2, 0);
        Check.due("1 more would be 21", x.least(RULE, 0, 1), NONE);
        x.rule(4, 15);
        Check.due("6 more would be 21", x.least(RULE, 0, 1), NONE);
    }

    private static void leastCoins() {
        TowersAndWaves x = gate(10);
        x.send(0, 0, 0);
        for (int cost = 1; cost <= 14; cost++) {
            x.tower(0, 0, cost);
            for (int coins : new int[] {0, 1, 3}) {
                x.rule(3, coins);
                int k = Math.max(0, cost - coins);
                Check.due(coins + " COINS for " + cost, x.least(RULE, 0, 0), k <= 10 ? k : NONE);
            }
        }
    }

    /** 100 coins at most: two towers of 50 can be paid, and not one of 1 besides. */
    private static void leastCoinsWithinBounds() {
        TowersAndWaves x = gate(10);
        x.rule(1, 2);
        x.spot(1, 0, 0);
        x.spot(1, 1, 0);
        x.tower(0, 0, 50);
        x.tower(0, 3, 6);
        x.creep(0, 0, 20);
        x.send(0, 0, 0);
        x.rule(3, 95);
        Check.due("5 more are 100", x.least(RULE, 0, 0), 5);
        x.rule(3, 90);
        Check.due("10 more are 100", x.least(RULE, 0, 0), 10);
        x.rule(3, 89);
        Check.due("11 more would be 100", x.least(RULE, 0, 0), NONE);
        x.rule(3, 100);
        Check.due("0 more are 100", x.least(RULE, 0, 0), 0);
        x.creep(0, 0, 21);
        Check.due("no more than 100", x.least(RULE, 0, 0), NONE);
        x.rule(3, 99);
        Check.due("1 more are 100", x.least(RULE, 0, 0), NONE);
    }

    /** Kind 0 has a pace of 2: three hits at cell 0. */
    private static void leastPower() {
        TowersAndWaves x = gate(20);
        x.send(0, 0, 0);
        int[][] healthAndLeast = {{60, 0}, {61, 1}, {63, 1}, {64, 2}, {87, 9}, {88, 10}, {90, 10}, {91, NONE}};
        for (int[] row : healthAndLeast) {
            x.creep(0, 0, row[0]);
            Check.due("POWER for HEALTH " + row[0], x.least(TOWER, 0, 2), row[1]);
        }
        x.tower(0, 2, 19);
        x.creep(0, 0, 87);
        Check.due("10 more are 29", x.least(TOWER, 0, 2), 10);
        x.creep(0, 0, 88);
        Check.due("11 more would be 30", x.least(TOWER, 0, 2), NONE);
        x.tower(0, 2, 28);
        x.creep(0, 0, 90);
        Check.due("2 more are 30", x.least(TOWER, 0, 2), 2);
        x.creep(0, 0, 91);
        Check.due("3 more would be 31", x.least(TOWER, 0, 2), NONE);
    }

    /** On 16 cells a creep of pace 1 is in reach for 2 ticks at cell 0 and one more for each cell. */
    private static void leastRange() {
        TowersAndWaves x = gate(10);
        x.rule(0, 16);
        x.send(0, 2, 0);
        for (int hits = 1; hits <= 12; hits++) {
            x.creep(2, 0, 10 * hits);
            int k = Math.max(0, hits - 2);
            Check.due("RANGE for " + hits + " hits", x.least(TOWER, 0, 1), k <= 8 ? k : NONE);
            x.tower(0, 1, 7);
            Check.due("RANGE from 7, for " + hits + " hits", x.least(TOWER, 0, 1), hits <= 9 ? 0 : hits == 10 ? 1 : NONE);
            x.tower(0, 1, 0);
        }
    }

    /** A creep of pace p is at cell 0 for p + 1 ticks. */
    private static void leastPace() {
        TowersAndWaves x = gate(10);
        x.send(0, 2, 0);
        for (int hits = 1; hits <= 7; hits++) {
            x.creep(2, 0, 10 * hits);
            Check.due("PACE for " + hits + " hits", x.least(CREEP, 2, 1), hits <= 6 ? Math.max(0, hits - 2) : NONE);
        }
        x.creep(2, 1, 5);
        Check.due("no PACE above 5", x.least(CREEP, 2, 1), NONE);
        x.creep(2, 0, 60);
        Check.due("PACE 5 will do", x.least(CREEP, 2, 1), 0);
    }

    /** What wave 0 leaves must pay the tower that wave 1 wants. */
    private static void leastPrize() {
        TowersAndWaves x = gate(10);
        x.rule(2, 2);
        x.tower(1, 0, 12);
        x.tower(1, 2, 30);
        x.tower(1, 3, 1);
        x.send(0, 0, 0);
        x.send(1, 1, 0);
        x.creep(1, 0, 100);
        x.creep(1, 3, 0);
        for (int prize = 0; prize <= 14; prize++) {
            x.creep(0, 2, prize);
            int k = Math.max(0, 12 - prize);
            Check.due("PRIZE from " + prize, x.least(CREEP, 0, 2), k <= 10 ? k : NONE);
        }
        x.tower(1, 0, 20);
        x.creep(0, 2, 12);
        Check.due("8 more are 20", x.least(CREEP, 0, 2), 8);
        x.tower(1, 0, 21);
        Check.due("9 more would be 21", x.least(CREEP, 0, 2), NONE);
    }

    private static void leastHelpsNot() {
        TowersAndWaves x = gate(10);
        x.creep(0, 0, 31);
        x.send(0, 0, 0);
        Check.due("COST", x.least(TOWER, 0, 0), NONE);
        Check.due("REST", x.least(TOWER, 0, 3), NONE);
        Check.due("HEALTH", x.least(CREEP, 0, 0), NONE);
        Check.due("ARMOUR", x.least(CREEP, 0, 3), NONE);
        x.creep(0, 0, 30);
        Check.due("COST, WON as it is", x.least(TOWER, 0, 0), 0);
        Check.due("REST, WON as it is", x.least(TOWER, 0, 3), 0);
        Check.due("HEALTH, WON as it is", x.least(CREEP, 0, 0), 0);
        Check.due("ARMOUR, WON as it is", x.least(CREEP, 0, 3), 0);
    }

    /** "a number of a KIND": of that kind alone. */
    private static void leastOfOtherKinds() {
        TowersAndWaves x = gate(10);
        x.creep(0, 0, 31);
        x.send(0, 0, 0);
        Check.due("POWER of KIND 0", x.least(TOWER, 0, 2), 1);
        Check.due("POWER of KIND 1", x.least(TOWER, 1, 2), NONE);
        Check.due("POWER of KIND 2", x.least(TOWER, 2, 2), NONE);
        Check.due("PACE of KIND 0", x.least(CREEP, 0, 1), 1);
        Check.due("PACE of KIND 1", x.least(CREEP, 1, 1), NONE);
        Check.due("PACE of KIND 2", x.least(CREEP, 2, 1), NONE);
    }

    /** At its bound there is k = 0 alone. */
    private static void leastAtTheBound() {
        for (int of = 0; of < 3; of++) {
            for (int what = 0; what < MOST[of].length; what++) {
                TowersAndWaves x = new TowersAndWaves();
                put(x, of, 1, what, MOST[of][what]);
                Check.due("WON at the bound", x.least(of, 1, what), 0);
                x.rule(2, 4);
                x.creep(0, 0, 200);
                x.creep(0, 3, 10);
                for (int i = 0; i < 32; i++) {
                    x.send(i / 8, 0, 0);
                }
                Check.due("LOST at the bound", x.least(of, 1, what), NONE);
                Check.due("it stands there yet", put(x, of, 1, what, MOST[of][what]), MOST[of][what]);
            }
        }
    }

    /** "there is a WINNER", of what is sought till the bound. */
    private static void leastTillSpent() {
        TowersAndWaves x = gate(10);
        x.rule(1, 4);
        x.rule(3, 20);
        x.tower(0, 3, 6);
        for (int place = 0; place < 4; place++) {
            x.spot(place, 0, 0);
            x.spot(place, 1, place < 2 ? 3 : 0);
        }
        x.creep(0, 0, 20);
        x.send(0, 0, 0);
        // places 2 and 3 together: first in the 95th way
        x.rule(5, 94);
        Check.due("one look short", x.least(RULE, 0, 0), NONE);
        Check.due("with more POWER one TOWER will do", x.least(TOWER, 0, 2), 10);
        x.rule(5, 95);
        Check.due("just found", x.least(RULE, 0, 0), 0);
        Check.due("just found", x.least(TOWER, 0, 2), 0);
    }

    /** "2 COINS (what 0), LIVES (what 1; kind is not looked at)" */
    private static void kindIsNotLookedAt() {
        TowersAndWaves x = gate(10);
        x.rule(3, 7);
        x.send(0, 0, 0);
        for (int kind : new int[] {Integer.MIN_VALUE, -1, 0, 2, 3, Integer.MAX_VALUE}) {
            Check.due("least of COINS", x.least(RULE, kind, 0), 3);
            Check.due("least of LIVES", x.least(RULE, kind, 1), 1);
            Check.due("hurts of COINS", x.hurts(RULE, kind, 0), 0);
            Check.due("hurts of LIVES", x.hurts(RULE, kind, 1), 0);
        }
    }

    /** "1, 0; NONE: it is at its bound" */
    private static void hurtsAtTheBound() {
        for (int of = 0; of < 3; of++) {
            for (int what = 0; what < MOST[of].length; what++) {
                for (int kind = 0; kind < 3; kind++) {
                    TowersAndWaves x = new TowersAndWaves();
                    put(x, of, kind, what, MOST[of][what]);
                    Check.due("at the bound", x.hurts(of, kind, what), NONE);
                    Check.due("it stands there yet", put(x, of, kind, what, MOST[of][what] - 1), MOST[of][what]);
                    Check.due("one below", x.hurts(of, kind, what), 0);
                    Check.due("it stands there yet", put(x, of, kind, what, LEAST[of][what]), MOST[of][what] - 1);
                    Check.due("at the other bound", x.hurts(of, kind, what), 0);
                    Check.due("it stands there yet", put(x, of, kind, what, 1), LEAST[of][what]);
                }
            }
        }
    }

    /** "if with one more of it (within its bounds) THE BEST passes fewer WAVES" */
    private static void hurtsByWaves() {
        TowersAndWaves x = gate(10);
        x.creep(0, 0, 30);
        x.send(0, 0, 0);
        Check.due("COST", x.hurts(TOWER, 0, 0), 1);
        Check.due("RANGE", x.hurts(TOWER, 0, 1), 0);
        Check.due("POWER", x.hurts(TOWER, 0, 2), 0);
        Check.due("REST", x.hurts(TOWER, 0, 3), 1);
        Check.due("HEALTH", x.hurts(CREEP, 0, 0), 1);
        Check.due("PACE", x.hurts(CREEP, 0, 1), 0);
        Check.due("PRIZE", x.hurts(CREEP, 0, 2), 0);
        Check.due("ARMOUR", x.hurts(CREEP, 0, 3), 1);
        Check.due("COINS", x.hurts(RULE, 0, 0), 0);
        Check.due("LIVES", x.hurts(RULE, 0, 1), 0);
        Check.due("another KIND's HEALTH", x.hurts(CREEP, 1, 0), 0);
        Check.due("another KIND's COST", x.hurts(TOWER, 1, 0), NONE);
        x.rule(3, 11);
        Check.due("COST with a COIN more", x.hurts(TOWER, 0, 0), 0);
        x.creep(0, 0, 29);
        Check.due("HEALTH with one less", x.hurts(CREEP, 0, 0), 0);
        x.creep(0, 0, 200);
        Check.due("HEALTH at its bound", x.hurts(CREEP, 0, 0), NONE);
        Check.due("POWER, none is passed either way", x.hurts(TOWER, 0, 2), 0);
        Check.due("ARMOUR, none is passed either way", x.hurts(CREEP, 0, 3), 0);
    }

    /** "or as many with fewer LIVES" */
    private static void hurtsByLives() {
        TowersAndWaves x = gate(10);
        x.rule(4, 2);
        x.creep(0, 0, 30);
        x.send(0, 0, 0);
        Check.due("HEALTH: 1 LIFE in place of 2", x.hurts(CREEP, 0, 0), 1);
        Check.due("COST: likewise", x.hurts(TOWER, 0, 0), 1);
        Check.due("WAVES are as many", x.best(0), 1);
        // the first winner, of none, has 1 life: it is the best one, with 2, that counts
        Check.due("POWER: 2 LIVES either way", x.hurts(TOWER, 0, 2), 0);
        Check.due("PRIZE: 2 LIVES either way", x.hurts(CREEP, 0, 2), 0);
        Check.due("COINS: 2 LIVES either way", x.hurts(RULE, 0, 0), 0);
        x.creep(0, 0, 31);
        Check.due("1 LIFE either way", x.hurts(CREEP, 0, 0), 0);
        x.rule(2, 2);
        x.creep(0, 0, 30);
        x.creep(1, 0, 200);
        x.send(1, 1, 0);
        x.send(1, 1, 0);
        // wave 1 is never passed: behind wave 0 there are 2 lives, or 1
        Check.due("LIVES behind the last that is passed", x.hurts(CREEP, 0, 0), 1);
        Check.due("of one WAVE", x.best(0), 1);
    }

    /** Fewer coins with as many waves and lives are no hurt; nor are more waves with fewer lives. */
    private static void coinsDoNotHurt() {
        TowersAndWaves x = gate(10);
        x.rule(3, 20);
        x.creep(0, 0, 10);
        x.send(0, 0, 0);
        Check.due("COINS", x.best(2), 12);
        Check.due("COST: 11 in place of 12", x.hurts(TOWER, 0, 0), 0);
        x.tower(0, 0, 11);
        Check.due("COINS now", x.best(2), 11);
        x = gate(10);
        x.rule(2, 2);
        x.rule(4, 2);
        x.creep(0, 0, 30);
        x.creep(1, 0, 33);
        x.creep(1, 1, 2);
        x.creep(1, 3, 0);
        x.send(0, 0, 0);
        x.send(1, 1, 0);
        x.send(1, 1, 0);
        Check.due("one WAVE", x.best(0), 1);
        Check.due("with 2 LIVES", x.best(1), 2);
        Check.due("POWER: more WAVES with fewer LIVES", x.hurts(TOWER, 0, 2), 0);
        x.tower(0, 2, 11);
        Check.due("two WAVES", x.best(0), 2);
        Check.due("with 1 LIFE", x.best(1), 1);
    }

    /**
     * "numbers that hurt although they are more": with reach 0 the tower hits the strong one at tick 3 and is ready for the
     * weak one at 8; with reach 1 it hits the strong one at 0 and 5, and the weak one is out of reach at 10.
     */
    private static void rangeThatHurts() {
        TowersAndWaves x = gate(10);
        x.rule(4, 3);
        x.spot(0, 0, 1);
        x.tower(0, 3, 5);
        x.creep(0, 0, 200);
        x.creep(2, 0, 10);
        x.send(0, 0, 0);
        x.send(0, 2, 6);
        Check.due("LIVES", x.best(1), 2);
        Check.due("RANGE: fewer LIVES", x.hurts(TOWER, 0, 1), 1);
        x.rule(4, 2);
        Check.due("RANGE: fewer WAVES", x.hurts(TOWER, 0, 1), 1);
        Check.due("WON as it is", x.least(TOWER, 0, 1), 0);
        x.tower(0, 1, 1);
        Check.due("RANGE 1 is LOST", x.best(0), 0);
        Check.due("RANGE 1 hurts no more", x.hurts(TOWER, 0, 1), 0);
    }

    /**
     * With 1 life the first way that passes wave 0 kills, and its prize pays for wave 1; with 2 lives the way of none
     * passes wave 0, and the search is spent on what follows it.
     */
    private static void livesThatHurt() {
        TowersAndWaves x = gate(10);
        x.rule(1, 4);
        x.rule(2, 2);
        x.rule(5, 50);
        x.creep(0, 2, 20);
        x.creep(1, 0, 60);
        x.creep(1, 3, 0);
        x.tower(2, 0, 20);
        x.tower(2, 2, 30);
        x.tower(2, 3, 1);
        x.send(0, 0, 0);
        x.send(1, 1, 0);
        Check.due("WAVES with 1 LIFE", x.best(0), 2);
        Check.due("LIVES", x.hurts(RULE, 0, 1), 1);
        x.rule(4, 2);
        Check.due("WAVES with 2 LIVES", x.best(0), 1);
        Check.due("a third LIFE helps", x.least(RULE, 0, 1), 1);
        x.rule(4, 1);
        x.rule(5, 500);
        Check.due("not with more LOOKS", x.hurts(RULE, 0, 1), 0);
    }

    /** Neither call changes anything, whatever it answers. */
    private static void nothingIsChanged() {
        List<Integer> untouched = Look.at(prepared());
        for (int of = 0; of < 3; of++) {
            for (int what = 0; what < MOST[of].length; what++) {
                for (int kind = 0; kind < (of == RULE ? 1 : 3); kind++) {
                    TowersAndWaves x = prepared();
                    x.least(of, kind, what);
                    Check.that("least(" + of + ", " + kind + ", " + what + ") changes nothing", Look.at(x).equals(untouched));
                    x = prepared();
                    x.hurts(of, kind, what);
                    Check.that("hurts(" + of + ", " + kind + ", " + what + ") changes nothing", Look.at(x).equals(untouched));
                }
            }
        }
    }

    private static TowersAndWaves prepared() {
        TowersAndWaves x = new TowersAndWaves();
        x.rule(2, 3);
        x.rule(3, 25);
        x.rule(4, 2);
        x.rule(5, 100);
        for (int i = 0; i < 9; i++) {
            x.send(i / 3, i % 3, 2);
        }
        x.buy(0, 0, 0, 0);
        x.buy(1, 1, 1, 1);
        x.buy(2, 0, 1, 2);
        x.best(0);
        return x;
    }
}
