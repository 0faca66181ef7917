/** Part 2 of the terms, edge by edge: each method bears the sentence that it holds, its numbers are worked out by hand. */
public final class PlayEdgesTest {
    private static final int NONE = -1, NOT = -1003;

    public static void main(String[] args) {
        upToTwoBuysInOrder();
        coinsAreCostOrMore();
        elseNothing();
        halfTheCostCut();
        whatComesBackIsNotThereYet();
        sameKindAgain();
        buyOfNone();
        noBuys();
        wavesBeyondAreKept();
        prizesPayLater();
        towersStay();
        waveWithoutCreeps();
        ticksFrom0On();
        orLivesAre0();
        readyAtTheBeginning();
        comeThenHitsThenSteps();
        towersByPlaces();
        greatestCell();
        ofLikeOnesTheFirst();
        rangeLessDepth();
        readyAgain();
        oneAtLeast();
        withoutHealth();
        notZeroTicksAgo();
        beyondTheLastCell();
        notBelow0();
        lostInThatWave();
        withAllWavesItIsWon();
        didNotComeToIt();
        nothingIsLeftOver();
        Check.end();
    }

    private static void play(String name, TowersAndWaves x, int... want) {
        for (int what = 0; what < want.length; what++) {
            Check.due(name + ": play(" + what + ")", x.play(what), want[what]);
        }
    }

    /** Coins, and towers of kinds 0 to 2 that cost so much. */
    private static TowersAndWaves market(int coins, int... costs) {
        TowersAndWaves x = new TowersAndWaves();
        x.rule(1, 4);
        x.rule(3, coins);
        for (int kind = 0; kind < costs.length; kind++) {
            x.tower(kind, 0, costs[kind]);
        }
        return x;
    }

    private static void holds(String name, TowersAndWaves x, int coins, int... kinds) {
        Check.due(name + ": COINS", x.play(2), coins);
        Check.due(name + ": COINS behind it", x.during(0, 1), coins);
        for (int place = 0; place < kinds.length; place++) {
            Check.due(name + ": PLACE " + place, x.during(0, 3 + place), kinds[place]);
        }
    }

    /** One tower of kind 0 at place 0, for 1 of 1 coins, that hits each tick what is at cell 0. */
    private static TowersAndWaves gate(int power) {
        TowersAndWaves x = market(1, 1);
        x.spot(0, 0, 0);
        x.spot(0, 1, 0);
        x.tower(0, 1, 0);
        x.tower(0, 2, power);
        for (int kind = 0; kind < 3; kind++) {
            x.creep(kind, 3, 0);
        }
        x.buy(0, 0, 0, 0);
        return x;
    }

    /** "for each WAVE up to two BUYS, in order: a PLACE and a KIND of TOWER" */
    private static void upToTwoBuysInOrder() {
        TowersAndWaves x = market(15, 10, 15, 25);
        x.buy(0, 0, 0, 0);
        x.buy(0, 1, 1, 1);
        holds("10, then 15 of 15", x, 5, 0, NONE, NONE, NONE);
        x.buy(0, 0, 1, 1);
        x.buy(0, 1, 0, 0);
        holds("15, then 10 of 15", x, 0, NONE, 1, NONE, NONE);
        x.rule(3, 25);
        holds("both", x, 0, 0, 1, NONE, NONE);
        x.buy(0, 0, 3, NONE);
        holds("the second alone", x, 15, 0, NONE, NONE, NONE);
        x.buy(0, 0, 3, 0);
        x.buy(0, 1, 3, NONE);
        holds("the first alone", x, 15, NONE, NONE, NONE, 0);
        x.buy(0, 0, 2, 0);
        holds("one in place of the other", x, 15, NONE, NONE, 0, NONE);
    }

    /** "if the COINS are COST or more, the PLACE gets such a TOWER .., the COST is paid" */
    private static void coinsAreCostOrMore() {
        for (int cost : new int[] {1, 2, 10, 49, 50}) {
            for (int kind = 0; kind < 3; kind++) {
                TowersAndWaves x = market(cost - 1, cost, cost, cost);
                x.buy(0, 0, 2, kind);
                holds("one short of " + cost, x, cost - 1, NONE, NONE, NONE, NONE);
                x.rule(3, cost);
                holds("just " + cost, x, 0, NONE, NONE, kind, NONE);
                x.rule(3, cost + 1);
                holds("one above " + cost, x, 1, NONE, NONE, kind, NONE);
            }
        }
    }

    /** "else nothing": no coins come back for a tower that is not replaced, and the next buy is tried all the same. */
    private static void elseNothing() {
        TowersAndWaves x = market(30, 20, 11, 10);
        x.buy(0, 0, 0, 0);
        x.buy(0, 1, 0, 1);
        holds("the old one stays", x, 10, 0, NONE, NONE, NONE);
        x.buy(0, 1, 0, 2);
        holds("the new one is paid", x, 10, 2, NONE, NONE, NONE);
        x = market(10, 11, 10, 10);
        x.buy(0, 0, 1, 0);
        x.buy(0, 1, 1, 1);
        holds("the second behind one that is too dear", x, 0, NONE, 1, NONE, NONE);
    }

    /** "in place of one there; of that half the COST, cut, comes back" */
    private static void halfTheCostCut() {
        int[][] costAndBack = {{1, 0}, {2, 1}, {3, 1}, {4, 2}, {15, 7}, {48, 24}, {49, 24}, {50, 25}};
        for (int[] row : costAndBack) {
            TowersAndWaves x = market(100, row[0], 20);
            x.buy(0, 0, 3, 0);
            x.buy(0, 1, 3, 1);
            holds("half of " + row[0], x, 80 - row[0] + row[1], NONE, NONE, NONE, 1);
            x.buy(0, 1, 2, 1);
            holds("nothing for one at another PLACE", x, 80 - row[0], NONE, NONE, 1, 0);
        }
        TowersAndWaves x = market(100, 9, 20);
        x.rule(2, 2);
        x.buy(0, 0, 1, 0);
        x.buy(1, 0, 1, 1);
        Check.due("half of it comes back a WAVE later too", x.during(1, 1), 100 - 9 - 20 + 4);
    }

    /** "if the COINS are COST or more": those that come back are not there when it is asked. */
    private static void whatComesBackIsNotThereYet() {
        TowersAndWaves x = market(24, 10, 15);
        x.buy(0, 0, 0, 0);
        x.buy(0, 1, 0, 1);
        holds("14 and 5 that would come back, for 15", x, 14, 0);
        x.rule(3, 25);
        holds("15 for 15", x, 5, 1);
    }

    private static void sameKindAgain() {
        TowersAndWaves x = market(22, 11);
        x.buy(0, 0, 0, 0);
        x.buy(0, 1, 0, 0);
        holds("the same KIND in its own place", x, 5, 0);
        x.rule(3, 21);
        holds("too few for it twice", x, 10, 0);
    }

    /** "BUY b .. becomes one of a KIND (NONE: none) at a PLACE: 1." */
    private static void buyOfNone() {
        TowersAndWaves x = market(100, 10, 15, 25);
        x.buy(0, 0, 0, 0);
        x.buy(0, 1, 1, 1);
        for (int place = 0; place < 4; place++) {
            Check.due("buy(0, 0, " + place + ", NONE)", x.buy(0, 0, place, NONE), 1);
            holds("without BUY 0", x, 85, NONE, 1);
            Check.due("buy(0, 0, 0, 2)", x.buy(0, 0, 0, 2), 1);
            holds("with another BUY 0", x, 60, 2, 1);
        }
        Check.due("buy(0, 1, 3, NONE)", x.buy(0, 1, 3, NONE), 1);
        Check.due("once more", x.buy(0, 1, 3, NONE), 1);
        holds("without BUY 1", x, 75, 2, NONE);
    }

    /** "THE LINE has no BUYS: 1." */
    private static void noBuys() {
        TowersAndWaves x = market(100, 1, 1, 1);
        Check.due("idle() without BUYS", x.idle(), 1);
        x.rule(2, 4);
        for (int wave = 0; wave < 4; wave++) {
            x.buy(wave, 0, wave, 0);
            x.buy(wave, 1, wave, 1);
        }
        Check.due("eight BUYS", x.play(2), 92);
        Check.due("idle()", x.idle(), 1);
        Check.due("none", x.play(2), 100);
        for (int wave = 0; wave < 4; wave++) {
            for (int place = 0; place < 4; place++) {
                Check.due("no TOWER", x.during(wave, 3 + place), NONE);
            }
        }
        Check.due("idle() again", x.idle(), 1);
    }

    /** "BUY b (0, 1) of a WAVE": also of one that is none of the WAVES yet; it waits for it. */
    private static void wavesBeyondAreKept() {
        TowersAndWaves x = market(50, 1, 2, 4);
        for (int wave = 0; wave < 4; wave++) {
            Check.due("buy(" + wave + ", 1, 3, 2)", x.buy(wave, 1, wave, 2), 1);
        }
        for (int w = 1; w <= 4; w++) {
            x.rule(2, w);
            Check.due("COINS behind " + w + " WAVES", x.play(2), 50 - 4 * w);
        }
        x.rule(2, 1);
        Check.due("buy(3, 1, 3, NONE)", x.buy(3, 1, 3, NONE), 1);
        x.rule(2, 4);
        Check.due("COINS without the last", x.play(2), 50 - 12);
    }

    /** "COINS and PRIZE at once": they pay in the next wave, and a prize may be 0. */
    private static void prizesPayLater() {
        TowersAndWaves x = gate(10);
        x.rule(2, 2);
        x.tower(1, 0, 7);
        x.creep(0, 2, 7);
        x.send(0, 0, 0);
        x.buy(0, 1, 1, 1);
        x.buy(1, 0, 1, 1);
        Check.due("not in its own WAVE", x.during(0, 4), NONE);
        Check.due("COINS behind it", x.during(0, 1), 7);
        Check.due("in the next", x.during(1, 4), 1);
        Check.due("COINS behind that", x.during(1, 1), 0);
        x.creep(0, 2, 6);
        Check.due("one short", x.during(1, 4), NONE);
        x.creep(0, 2, 0);
        Check.due("a PRIZE of 0", x.during(1, 1), 0);
        Check.due("dead all the same", x.play(4), 1);
    }

    private static void towersStay() {
        TowersAndWaves x = market(3, 1, 1, 1);
        x.rule(2, 4);
        x.buy(0, 0, 3, 2);
        x.buy(2, 1, 0, 1);
        int[][] kinds = {{NONE, 2}, {NONE, 2}, {1, 2}, {1, 2}};
        for (int wave = 0; wave < 4; wave++) {
            Check.due("PLACE 0 in WAVE " + wave, x.during(wave, 3), kinds[wave][0]);
            Check.due("PLACE 3 in WAVE " + wave, x.during(wave, 6), kinds[wave][1]);
        }
    }

    /** "till all CREEPS of the WAVE are dead or through": none are, from its beginning on; its buys are paid. */
    private static void waveWithoutCreeps() {
        TowersAndWaves x = market(20, 10);
        x.buy(0, 0, 0, 0);
        play("one empty WAVE", x, 1, 5, 10, 0, 0, 0, 0);
        Check.due("its TICKS", x.during(0, 2), 0);
        x.rule(2, 4);
        play("four empty WAVES", x, 4, 5, 10, 0, 0, 0, 0);
        Check.due("TICKS of the last", x.during(3, 2), 0);
        x.idle();
        x.rule(4, 2);
        x.send(1, 2, 0);
        play("one that is not", x, 4, 1, 20, 9, 0, 1, 0);
        Check.due("TICKS of WAVE 0", x.during(0, 2), 0);
        Check.due("TICKS of WAVE 1", x.during(1, 2), 9);
        Check.due("TICKS of WAVE 2", x.during(2, 2), 0);
        x.rule(4, 1);
        play("nothing behind the one that is lost", x, 1, 0, 20, 9, 0, 1, 0);
    }

    /** "Then TICKS from 0 on, till all CREEPS of the WAVE are dead or through" */
    private static void ticksFrom0On() {
        TowersAndWaves x = gate(30);
        x.send(0, 0, 0);
        play("dead in tick 0", x, 1, 5, 2, 1, 1, 0, 1);
        x.send(0, 0, 9);
        play("and in tick 9", x, 1, 5, 4, 10, 2, 0, 2);
        x.send(0, 2, 9);
        x.tower(0, 2, 2);
        x.creep(2, 0, 5);
        x.creep(0, 0, 2);
        // kind 2 comes at 18, is hit at 18 and 19, and is through at 26
        play("one is through", x, 1, 4, 4, 27, 2, 1, 4);
    }

    /** "or LIVES are 0": those that are on the path, or still to come, are not waited for. */
    private static void orLivesAre0() {
        TowersAndWaves x = new TowersAndWaves();
        x.rule(4, 1);
        x.send(0, 2, 0);
        x.send(0, 2, 1);
        x.send(0, 2, 9);
        play("1 LIFE", x, 0, 0, 20, 9, 0, 1, 0);
        x.rule(4, 2);
        play("2 LIVES", x, 0, 0, 20, 10, 0, 2, 0);
        x.rule(4, 3);
        play("3 LIVES", x, 0, 0, 20, 19, 0, 3, 0);
        x.rule(4, 4);
        play("4 LIVES", x, 1, 1, 20, 19, 0, 3, 0);
    }

    /** "All TOWERS are ready at a WAVE's beginning." */
    private static void readyAtTheBeginning() {
        TowersAndWaves x = gate(30);
        x.rule(2, 4);
        x.tower(0, 3, 6);
        for (int wave = 0; wave < 4; wave++) {
            x.send(wave, 0, 0);
        }
        play("a hit in tick 0 of each", x, 4, 5, 8, 4, 4, 0, 4);
    }

    /** "1. CREEPS whose time it is come, at CELL 0. 2. TOWERS .. 3. .. goes one CELL on" */
    private static void comeThenHitsThenSteps() {
        TowersAndWaves x = gate(1);
        x.creep(2, 0, 2);
        x.send(0, 2, 4);
        // come at 4, hit at 4 and, before its first step, at 5
        play("hit before it goes", x, 1, 5, 1, 6, 1, 0, 2);
        x.creep(2, 0, 3);
        play("gone behind tick 5", x, 1, 4, 0, 13, 0, 1, 2);
    }

    /** "TOWERS by PLACES": the weak one takes the first creep, so that the strong one's hit is left for the second. */
    private static void towersByPlaces() {
        TowersAndWaves x = gate(3);
        x.rule(3, 2);
        x.tower(1, 0, 1);
        x.tower(1, 1, 0);
        x.tower(1, 2, 10);
        x.tower(1, 3, 6);
        x.tower(0, 3, 6);
        x.spot(1, 0, 0);
        x.spot(1, 1, 0);
        x.creep(0, 0, 3);
        x.creep(1, 0, 10);
        x.send(0, 0, 0);
        x.send(0, 1, 0);
        x.buy(0, 0, 1, 1);
        x.buy(0, 1, 0, 0);
        play("the weak one at PLACE 0", x, 1, 5, 7, 1, 2, 0, 2);
        x.buy(0, 0, 1, 0);
        x.buy(0, 1, 0, 1);
        // the strong one takes the first; 10 less 3 at tick 0 are left for it: through at 24, no ready tower till 6
        play("the strong one at PLACE 0", x, 1, 4, 2, 25, 1, 1, 2);
    }

    /** "the CREEP in reach that is farthest on (the greatest CELL ..)": not the one that came first. */
    private static void greatestCell() {
        TowersAndWaves x = market(1, 1);
        x.spot(0, 0, 3);
        x.spot(0, 1, 0);
        x.tower(0, 1, 3);
        x.tower(0, 2, 30);
        x.tower(0, 3, 6);
        x.creep(1, 0, 200);
        x.creep(1, 1, 5);
        x.creep(0, 0, 200);
        x.creep(0, 1, 1);
        x.creep(2, 0, 30);
        x.buy(0, 0, 0, 0);
        x.send(0, 1, 0);
        x.send(0, 2, 2);
        // tick 0: the slow one alone, ready at 6: the slow one, at cell 1, came first; the quick one is at cell 3
        Check.due("the quick one is hit at 6", x.play(4), 1);
        Check.due("and through is the slow one", x.play(5), 1);
        x.clear(0);
        x.send(0, 0, 0);
        x.send(0, 2, 2);
        // tick 6: the first is at cell 5, the second at 3
        Check.due("the first is farther on", x.play(4), 0);
        x.tower(0, 1, 1);
        // cells 2 to 4: tick 3 the first at 2, ready at 9: none is in reach any more, at cells 8 and 6
        Check.due("both through", x.play(5), 2);
        x.spot(0, 0, 2);
        x.tower(0, 3, 4);
        // cells 1 to 3: tick 2 the first at 1, ready at 6: it is at cell 5, out of reach, the second at 3
        Check.due("farthest of those in reach", x.play(4), 1);
    }

    /** "of like ones the one that came first": of two that came in one tick the one that was sent first. */
    private static void ofLikeOnesTheFirst() {
        TowersAndWaves x = gate(30);
        x.tower(0, 3, 6);
        for (int kind = 0; kind < 3; kind++) {
            x.creep(kind, 0, 30);
            x.creep(kind, 1, 1);
            x.creep(kind, 2, 1 + kind);
        }
        for (int first = 0; first < 3; first++) {
            x.clear(0);
            for (int i = 0; i < 3; i++) {
                x.send(0, (first + i) % 3, 0);
            }
            play("KIND " + first + " first", x, 1, 3, 1 + first, 9, 1, 2, 1);
        }
        x = market(1, 1);
        x.spot(0, 0, 2);
        x.spot(0, 1, 0);
        x.tower(0, 1, 0);
        x.tower(0, 2, 30);
        x.tower(0, 3, 6);
        x.buy(0, 0, 0, 0);
        x.creep(0, 1, 2);
        x.creep(2, 1, 1);
        x.send(0, 0, 0);
        x.send(0, 2, 2);
        // both are at cell 2 at tick 5 (the second at 5 alone): the one of kind 0 came first
        play("met at one CELL", x, 1, 4, 2, 11, 1, 1, 1);
    }

    /** "CELL and SPOT differing by at most RANGE less DEPTH (below 0: none)" */
    private static void rangeLessDepth() {
        int[][] rangeDepthHits = {{0, 0, 1}, {1, 0, 3}, {1, 1, 1}, {2, 1, 3}, {3, 1, 5}, {3, 3, 1}, {4, 3, 3},
            {0, 1, 0}, {0, 2, 0}, {0, 3, 0}, {1, 2, 0}, {2, 3, 0}, {1, 3, 0}};
        for (int[] row : rangeDepthHits) {
            TowersAndWaves x = market(1, 1);
            x.rule(0, 16);
            x.spot(0, 0, 8);
            x.spot(0, 1, row[1]);
            x.tower(0, 1, row[0]);
            x.creep(2, 0, 200);
            x.send(0, 2, 0);
            x.buy(0, 0, 0, 0);
            play("RANGE " + row[0] + ", DEPTH " + row[1], x, 1, 4, 0, 17, 0, 1, row[2]);
        }
        TowersAndWaves x = market(1, 1);
        x.spot(0, 0, 5);
        x.spot(0, 1, 1);
        x.tower(0, 1, 3);
        x.tower(0, 2, 30);
        x.creep(2, 0, 1);
        x.send(0, 2, 0);
        x.buy(0, 0, 0, 0);
        // two cells ahead of it is cell 3, at tick 4; two behind it is cell 7, at tick 8
        Check.due("the first CELL in reach", x.play(3), 5);
        x.creep(2, 0, 5 * 30);
        Check.due("the last CELL in reach", x.play(3), 9);
        Check.due("dead there", x.play(4), 1);
    }

    /** "it is ready again REST TICKS later": behind a hit, not behind a tick without one. */
    private static void readyAgain() {
        // the first comes at tick 3 and is dead; the second, so many ticks behind it, is at cell 0 for two ticks
        int[][] restGapDeadTicks = {{1, 0, 2, 5}, {2, 0, 1, 8}, {2, 1, 2, 6}, {3, 1, 1, 9}, {5, 3, 1, 11}, {5, 4, 2, 9},
            {6, 4, 1, 12}, {6, 5, 2, 10}, {6, 9, 2, 13}};
        for (int[] row : restGapDeadTicks) {
            TowersAndWaves x = gate(30);
            x.rule(0, 4);
            x.tower(0, 3, row[0]);
            x.creep(0, 0, 30);
            x.creep(0, 1, 1);
            x.send(0, 0, 3);
            x.send(0, 0, row[1]);
            Check.due("dead, REST " + row[0] + ", " + row[1] + " TICKS behind", x.play(4), row[2]);
            Check.due("its TICKS", x.play(3), row[3]);
        }
    }

    /** "HEALTH less POWER less ARMOUR (1 at least)" */
    private static void oneAtLeast() {
        int[][] powerArmourHarm = {{1, 0, 1}, {2, 0, 2}, {30, 0, 30}, {1, 1, 1}, {2, 1, 1}, {3, 1, 2}, {9, 10, 1},
            {10, 10, 1}, {11, 10, 1}, {12, 10, 2}, {30, 10, 20}, {1, 10, 1}};
        for (int[] row : powerArmourHarm) {
            TowersAndWaves x = gate(row[0]);
            x.creep(0, 1, 5);
            x.creep(0, 3, row[1]);
            x.send(0, 0, 0);
            // at cell 0 in ticks 0 to 5
            x.creep(0, 0, 6 * row[2]);
            play("POWER " + row[0] + ", ARMOUR " + row[1], x, 1, 5, 2, 6, 1, 0, 6);
            x.creep(0, 0, 5 * row[2] + 1);
            play("the last hit takes what is left", x, 1, 5, 2, 6, 1, 0, 6);
            x.creep(0, 0, 5 * row[2]);
            play("five hits", x, 1, 5, 2, 5, 1, 0, 5);
            x.creep(0, 0, 6 * row[2] + 1);
            play("1 is left", x, 1, 4, 0, 41, 0, 1, 6);
        }
    }

    /** "A CREEP without HEALTH is dead": it is hit no more, and does not go on. */
    private static void withoutHealth() {
        TowersAndWaves x = gate(10);
        x.rule(3, 2);
        x.spot(1, 0, 0);
        x.spot(1, 1, 0);
        x.buy(0, 1, 1, 0);
        x.send(0, 0, 0);
        x.creep(0, 0, 10);
        play("just its HEALTH: the second TOWER hits none", x, 1, 5, 2, 1, 1, 0, 1);
        x.creep(0, 0, 9);
        play("more than its HEALTH", x, 1, 5, 2, 1, 1, 0, 1);
        x.creep(0, 0, 11);
        play("one less: the second TOWER hits it too", x, 1, 5, 2, 1, 1, 0, 2);
        x.creep(0, 0, 21);
        play("one less than both", x, 1, 5, 2, 2, 1, 0, 3);
    }

    /** "Each CREEP that came TICKS ago that PACE goes into (not 0 of them) goes one CELL on" */
    private static void notZeroTicksAgo() {
        for (int pace = 1; pace <= 5; pace++) {
            for (int gap : new int[] {0, 1, 9}) {
                TowersAndWaves x = gate(1);
                x.creep(0, 0, 200);
                x.creep(0, 1, pace);
                x.send(0, 0, gap);
                // at cell 0 in the tick of its coming and in so many more as its pace is
                play("PACE " + pace + " from tick " + gap, x, 1, 4, 0, gap + 8 * pace + 1, 0, 1, pace + 1);
            }
        }
    }

    /** "beyond the last one it is through: LIVES less 1": at the last cell it is hit yet. */
    private static void beyondTheLastCell() {
        for (int length : new int[] {4, 8, 16}) {
            TowersAndWaves x = market(1, 1);
            x.rule(0, length);
            x.spot(0, 0, length - 1);
            x.spot(0, 1, 0);
            x.tower(0, 1, 0);
            x.tower(0, 2, 10);
            x.creep(2, 0, 10);
            x.send(0, 2, 0);
            x.buy(0, 0, 0, 0);
            play("dead at the last CELL", x, 1, 5, 1, length + 1, 1, 0, 1);
            x.creep(2, 0, 11);
            play("through", x, 1, 4, 0, length + 1, 0, 1, 1);
        }
    }

    /** "LIVES less 1 (not below 0)": all that are through in the last tick are through. */
    private static void notBelow0() {
        TowersAndWaves x = new TowersAndWaves();
        for (int i = 0; i < 8; i++) {
            x.send(0, 2, 0);
        }
        for (int lives : new int[] {1, 2, 7, 8}) {
            x.rule(4, lives);
            play("8 through, LIVES " + lives, x, 0, 0, 20, 9, 0, 8, 0);
            Check.due("LIVES behind it", x.during(0, 0), 0);
        }
        x.rule(4, 9);
        play("8 through, LIVES 9", x, 1, 1, 20, 9, 0, 8, 0);
        Check.due("LIVES behind it", x.during(0, 0), 1);
    }

    /** "Behind WAVE w that leaves LIVES the next one begins; with LIVES 0 the PLAY is LOST in that WAVE" */
    private static void lostInThatWave() {
        TowersAndWaves x = new TowersAndWaves();
        x.rule(2, 4);
        for (int i = 0; i < 8; i++) {
            x.send(i / 2, 2, 1);
        }
        for (int lives = 1; lives <= 8; lives++) {
            x.rule(4, lives);
            int in = (lives - 1) / 2;
            Check.due("WAVES passed with LIVES " + lives, x.play(0), in);
            Check.due("LIVES", x.play(1), 0);
            Check.due("through", x.play(5), lives);
            Check.due("LIVES behind the WAVE in which it is LOST", x.during(in, 0), 0);
            Check.due("lost()", x.lost(), in);
            if (in < 3) {
                Check.due("the next one", x.during(in + 1, 0), NOT);
            }
        }
    }

    /** "with all WAVES it is WON" */
    private static void withAllWavesItIsWon() {
        TowersAndWaves x = new TowersAndWaves();
        x.rule(4, 1);
        for (int w = 1; w <= 4; w++) {
            x.rule(2, w);
            play("WAVES " + w, x, w, 1, 20, 0, 0, 0, 0);
            Check.due("lost()", x.lost(), NONE);
            x.send(w - 1, 2, 0);
            play("LOST in the last of " + w, x, w - 1, 0, 20, 9, 0, 1, 0);
            Check.due("lost()", x.lost(), w - 1);
            x.clear(w - 1);
        }
    }

    /** "NOT: it did not come to it": the wave in which it is lost was come to, with its buys. */
    private static void didNotComeToIt() {
        TowersAndWaves x = market(10, 1, 2, 3);
        x.rule(2, 3);
        x.rule(4, 1);
        x.send(1, 2, 0);
        x.buy(1, 0, 3, 1);
        x.buy(2, 0, 2, 0);
        x.spot(3, 1, 3);
        int[][] want = {{1, 10, 0, NONE, NONE, NONE, NONE}, {0, 8, 9, NONE, NONE, NONE, 1},
            {NOT, NOT, NOT, NOT, NOT, NOT, NOT}, {NOT, NOT, NOT, NOT, NOT, NOT, NOT}};
        for (int wave = 0; wave < 4; wave++) {
            for (int what = 0; what <= 6; what++) {
                Check.due("during(" + wave + ", " + what + ")", x.during(wave, what), want[wave][what]);
            }
        }
        x.rule(4, 2);
        Check.due("it comes to WAVE 2 now", x.during(2, 5), 0);
        Check.due("COINS behind it", x.during(2, 1), 7);
        Check.due("WAVE 3 is none of the WAVES", x.during(3, 1), NOT);
        x.rule(2, 2);
        Check.due("WAVE 2 is none of the WAVES", x.during(2, 1), NOT);
    }

    /** "each step the same again": creeps that were on the path when a play was lost are none of the next play's. */
    private static void nothingIsLeftOver() {
        TowersAndWaves x = gate(10);
        x.rule(4, 1);
        x.rule(2, 2);
        x.creep(2, 0, 200);
        for (int i = 0; i < 8; i++) {
            x.send(0, 2, i == 0 ? 0 : 1);
        }
        for (int again = 0; again < 3; again++) {
            // the first is through at 8, when the last one, come at 7, is about to leave cell 0: a hit in each tick
            play("LOST with seven on the PATH", x, 0, 0, 0, 9, 0, 1, 9);
            Check.due("lost()", x.lost(), 0);
        }
        x.clear(0);
        x.rule(4, 5);
        play("none is sent", x, 2, 5, 0, 0, 0, 0, 0);
        x.creep(0, 1, 5);
        x.send(0, 0, 0);
        play("one is sent", x, 2, 5, 2, 1, 1, 0, 1);
        x.creep(0, 0, 200);
        // asked first: what is left over would be gone behind the first play
        Check.due("TICKS of one that goes through", x.play(3), 41);
        play("one is sent that goes through", x, 2, 4, 0, 41, 0, 1, 6);
        x.idle();
        play("nothing is bought", x, 2, 4, 1, 41, 0, 1, 0);
        x.send(1, 0, 3);
        play("one more in WAVE 1", x, 2, 3, 1, 41 + 44, 0, 2, 0);
    }
}
