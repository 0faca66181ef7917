/** Part 3 of the terms, to IDLE, edge by edge: each method bears the sentence that it holds. */
public final class SearchEdgesTest {
    private static final int NONE = -1;

    public static void main(String[] args) {
        noneThenOneThenTwo();
        byPlacesThenKinds();
        firstBuyCountsMost();
        firstWaveCountsMost();
        mostWaves();
        mostLives();
        mostCoins();
        ofLikeOnesTheFirst();
        asAtTheBeginning();
        nothingInWavesNotPassed();
        behindTheLastOfThese();
        oneLookForEachWay();
        nextWaveFollowsAtOnce();
        spentAboveTheBound();
        allIsToldTillThen();
        margin();
        winners();
        uses();
        boughtAtEachPlace();
        taken();
        idle();
        Check.end();
    }

    private static void best(String name, TowersAndWaves x, int... want) {
        for (int what = 0; what < want.length; what++) {
            Check.due(name + ": best(" + what + ")", x.best(what), want[what]);
        }
    }

    private static void bought(String name, TowersAndWaves x, int... want) {
        for (int i = 0; i < 8; i++) {
            int due = i < want.length ? want[i] : NONE;
            Check.due(name + ": bought(" + i / 2 + ", " + i % 2 + ")", x.bought(i / 2, i % 2), due);
        }
    }

    /** P places at cell 0 that each reach it alone; towers that hit once in six ticks and cost so much. */
    private static TowersAndWaves gates(int places, int coins, int... costs) {
        TowersAndWaves x = new TowersAndWaves();
        x.rule(1, places);
        x.rule(3, coins);
        x.rule(4, 1);
        for (int place = 0; place < 4; place++) {
            x.spot(place, 0, 0);
            x.spot(place, 1, 0);
        }
        for (int kind = 0; kind < 3; kind++) {
            x.tower(kind, 0, costs[kind]);
            x.tower(kind, 1, 0);
            x.tower(kind, 2, 10);
            x.tower(kind, 3, 6);
            x.creep(kind, 0, 10);
            x.creep(kind, 1, 1);
            x.creep(kind, 2, 0);
            x.creep(kind, 3, 0);
        }
        return x;
    }

    /** "each way of none, one or two BUYS (of none, then one, then two": where like ones are bought for nothing. */
    private static void noneThenOneThenTwo() {
        TowersAndWaves x = gates(2, 0, 1, 1, 1);
        bought("nothing can be paid", x);
        x.rule(3, 1);
        x.send(0, 0, 0);
        bought("one that is paid, before two of which one is", x, 0);
        x.rule(3, 2);
        x.send(0, 0, 0);
        bought("two that are paid", x, 0, 1);
    }

    /** "BUYS by PLACES, then KINDS" */
    private static void byPlacesThenKinds() {
        TowersAndWaves x = gates(3, 1, 1, 1, 1);
        x.send(0, 0, 0);
        bought("all do", x, 0);
        x.tower(0, 0, 2);
        bought("KIND 0 is too dear", x, 4);
        x.tower(1, 0, 2);
        bought("KIND 1 too", x, 8);
        x.tower(0, 0, 1);
        x.spot(0, 1, 1);
        bought("PLACE 0 does not reach", x, 1);
        x.spot(1, 1, 1);
        bought("PLACE 1 does not either", x, 2);
        x.tower(2, 1, 1);
        // kind 2 alone reaches from place 0: a place before its neighbour with another kind
        bought("KIND 2 at PLACE 0 before KIND 0 at PLACE 2", x, 8);
    }

    /** "the first BUY counts most": both orders win; the one whose first buy comes first is told. */
    private static void firstBuyCountsMost() {
        TowersAndWaves x = gates(2, 2, 1, 1, 50);
        x.send(0, 0, 0);
        x.send(0, 0, 0);
        bought("PLACE 0, then PLACE 1", x, 0, 1);
        x.spot(0, 1, 1);
        x.tower(1, 1, 1);
        // place 0 takes kind 1 alone: so it stands first, and kind 0 at place 1 second
        bought("KIND 1 at PLACE 0, then KIND 0 at PLACE 1", x, 4, 1);
        x.spot(0, 1, 0);
        x.spot(1, 1, 1);
        bought("KIND 0 at PLACE 0, then KIND 1 at PLACE 1", x, 0, 5);
    }

    /** "the first WAVE counts most" */
    private static void firstWaveCountsMost() {
        TowersAndWaves x = gates(2, 2, 1, 1, 1);
        x.rule(2, 2);
        x.rule(5, 500);
        x.send(1, 0, 0);
        bought("none in WAVE 0, where it can wait", x, NONE, NONE, 0);
        x.send(0, 0, 0);
        x.send(1, 0, 0);
        bought("one in WAVE 0, the other in WAVE 1", x, 0, NONE, 1);
        x.send(0, 0, 0);
        bought("two in WAVE 0", x, 0, 1);
    }

    /** "THE BEST: the most WAVES passed": before the most lives. */
    private static void mostWaves() {
        TowersAndWaves x = gates(1, 15, 10, 15, 50);
        x.rule(2, 2);
        x.rule(4, 5);
        x.tower(0, 2, 3);
        x.tower(0, 3, 1);
        x.tower(1, 2, 30);
        for (int kind = 0; kind < 2; kind++) {
            x.creep(kind, 1, 5);
        }
        x.creep(0, 0, 1);
        x.creep(1, 0, 30);
        for (int i = 0; i < 5; i++) {
            x.send(0, 0, 0);
            x.send(1, 1, 9);
        }
        // kind 0 kills all of wave 0 and none of wave 1, kind 1 one of wave 0 and all of wave 1; of 13 ways five get the one,
        // five the other, and three get none and lose
        best("two WAVES with 1 LIFE", x, 2, 1, 0, 13 + 10 * 13, 0, 1, 5 * 13);
        bought("KIND 1", x, 4);
        x.rule(2, 1);
        best("one WAVE with 5 LIVES", x, 1, 5, 5);
        bought("KIND 0", x, 0);
    }

    /** "of like ones the most LIVES behind the last of these": before the most coins. */
    private static void mostLives() {
        TowersAndWaves x = gates(1, 50, 1, 50, 50);
        x.rule(4, 3);
        x.tower(1, 3, 1);
        x.send(0, 0, 0);
        x.send(0, 0, 0);
        best("3 LIVES and no COINS before 2 and 49", x, 1, 3, 0);
        bought("the dear one", x, 4);
        x.rule(3, 49);
        best("2 LIVES and 48 COINS before 1 and 49", x, 1, 2, 48);
        bought("the cheap one", x, 0);
        x.rule(3, 0);
        best("1 LIFE", x, 1, 1, 0);
        bought("none", x);
    }

    /** "then the most COINS behind it": a prize may make a buy worth its cost. */
    private static void mostCoins() {
        TowersAndWaves x = gates(1, 10, 10, 9, 10);
        x.rule(4, 1);
        x.send(0, 0, 0);
        best("the cheapest of those that win", x, 1, 1, 1);
        bought("KIND 1", x, 4);
        x.tower(1, 0, 10);
        best("like ones", x, 1, 1, 0);
        bought("KIND 0", x, 0);
        x.tower(2, 0, 8);
        x.creep(0, 2, 20);
        best("the PRIZE is told too", x, 1, 1, 22);
        bought("KIND 2", x, 8);
    }

    /** "of like ones the first": each kind in each of the two waves would leave the same. */
    private static void ofLikeOnesTheFirst() {
        TowersAndWaves x = gates(1, 10, 5, 5, 5);
        x.rule(4, 2);
        x.rule(2, 2);
        x.creep(0, 2, 5);
        x.creep(0, 0, 11);
        x.send(1, 0, 0);
        best("no tower helps", x, 2, 1, 10);
        bought("none", x);
        x.creep(0, 0, 10);
        x.send(1, 1, 0);
        x.creep(1, 0, 200);
        // one is through whatever is bought; with a tower the other is dead, and its prize is the tower's cost
        best("KIND 0 in WAVE 1", x, 2, 1, 10);
        bought("the first of like ones", x, NONE, NONE, 0);
    }

    /** "(both as at the beginning, if none is passed)" */
    private static void asAtTheBeginning() {
        for (int lives : new int[] {1, 2, 8}) {
            for (int coins : new int[] {0, 1, 99, 100}) {
                TowersAndWaves x = gates(2, coins, 1, 1, 1);
                x.rule(2, 2);
                x.rule(4, lives);
                x.creep(0, 0, 200);
                for (int i = 0; i < 8; i++) {
                    x.send(0, 0, 0);
                }
                best("none is passed", x, 0, lives, coins, 43, 0, NONE, 0, 0, 0, 0);
                bought("none is passed", x);
            }
        }
    }

    /** "it BUYS nothing in WAVES that it does not pass" */
    private static void nothingInWavesNotPassed() {
        TowersAndWaves x = gates(1, 20, 1, 2, 3);
        x.rule(2, 3);
        x.send(0, 0, 0);
        x.creep(1, 0, 200);
        x.send(1, 1, 0);
        // none of 13 ways is left out in wave 0, and 12 of them are passed, none of wave 1
        best("WAVE 0 alone", x, 1, 1, 19, 13 + 12 * 13, 0, NONE, 0, 0, 0, 0);
        bought("in WAVE 0 alone", x, 0);
        x.buy(1, 0, 0, 2);
        x.buy(2, 0, 0, 2);
        x.take();
        x.clear(1);
        Check.due("the taken LINE buys nothing later", x.play(2), 19);
    }

    /** "behind the last of these": not as in the wave in which it is lost. */
    private static void behindTheLastOfThese() {
        TowersAndWaves x = gates(1, 10, 4, 50, 50);
        x.rule(2, 2);
        x.rule(4, 3);
        x.creep(0, 2, 7);
        x.send(0, 0, 0);
        x.send(0, 0, 0);
        for (int i = 0; i < 8; i++) {
            x.send(1, 0, i == 0 ? 0 : 1);
        }
        // wave 0: one dead, one through; in wave 1 the same tower kills two of eight
        best("behind WAVE 0", x, 1, 2, 13);
        x.take();
        Check.due("LIVES behind WAVE 0", x.during(0, 0), 2);
        Check.due("COINS behind WAVE 0", x.during(0, 1), 13);
        Check.due("LIVES behind WAVE 1", x.during(1, 0), 0);
        Check.that("COINS behind WAVE 1 are others", x.during(1, 1) != 13);
    }

    /** "each way in a WAVE is one LOOK": 1, 3 P and 9 P P ways, also of those that can't be paid. */
    private static void oneLookForEachWay() {
        int[] ways = {13, 43, 91, 157};
        for (int p = 1; p <= 4; p++) {
            for (int coins : new int[] {0, 100}) {
                TowersAndWaves x = gates(p, coins, 1, 2, 3);
                best("P " + p, x, 1, 1, coins, ways[p - 1], 0, 1, ways[p - 1]);
                x.send(0, 0, 0);
                Check.due("LOOKS with a CREEP", x.best(3), ways[p - 1]);
            }
        }
    }

    /** "if it is passed, all ways of the next WAVE follow at once, then the next way" */
    private static void nextWaveFollowsAtOnce() {
        TowersAndWaves x = gates(1, 1, 1, 50, 50);
        x.rule(2, 2);
        x.send(0, 0, 0);
        // of wave 0: kind 0 alone, before or behind each of three, that is 1 + 3 + 2 of 13 ways
        best("6 of 13 ways are passed", x, 2, 1, 0, 13 + 6 * 13, 0, 1, 6 * 13, 6 * 13, 0, 0);
        x.rule(5, 50);
        // none; one of kind 0 and 13; kinds 1 and 2; 0 0 and 13; 0 1 and 13; 0 2 and 4 of its 13
        best("50 of these", x, 2, 1, 0, 50, 1, 1, 3 * 13 + 4);
        x.rule(2, 3);
        // none; kind 0, none and 13; kind 0 and each next way and 13: 1 + 1 + 3 times 14 and a way and 5 more
        best("50 of three WAVES", x, 3, 1, 0, 50, 1, 1, 3 * 13 + 5);
    }

    /** "The search is SPENT, and ends, where LOOKS would be above BOUND" */
    private static void spentAboveTheBound() {
        int[][] boundLooksSpent = {{156, 156, 1}, {157, 157, 0}, {158, 157, 0}, {50, 50, 1}, {500, 157, 0}};
        TowersAndWaves x = gates(4, 10, 1, 1, 1);
        for (int[] row : boundLooksSpent) {
            x.rule(5, row[0]);
            best("one WAVE, BOUND " + row[0], x, 1, 1, 10, row[1], row[2], 1, row[1]);
        }
        x = gates(1, 10, 1, 1, 1);
        x.rule(2, 2);
        int[][] boundLooksSpentWinners = {{181, 181, 1, 168}, {182, 182, 0, 169}, {183, 182, 0, 169}};
        for (int[] row : boundLooksSpentWinners) {
            x.rule(5, row[0]);
            best("two WAVES, BOUND " + row[0], x, 2, 1, 10, row[1], row[2], 1, row[3]);
        }
        // the last way of wave 0 is passed by none, and nothing follows it
        x = gates(1, 1, 1, 50, 50);
        x.rule(2, 2);
        x.send(0, 0, 0);
        int[][] lastIsLost = {{90, 90, 1}, {91, 91, 0}, {92, 91, 0}};
        for (int[] row : lastIsLost) {
            x.rule(5, row[0]);
            best("the last way is lost, BOUND " + row[0], x, 2, 1, 0, row[1], row[2]);
        }
    }

    /** "all is told of what was sought till then" */
    private static void allIsToldTillThen() {
        TowersAndWaves x = gates(4, 2, 1, 1, 1);
        x.rule(4, 3);
        x.rule(5, 50);
        x.send(0, 0, 0);
        x.send(0, 0, 0);
        x.spot(0, 1, 3);
        x.spot(1, 1, 3);
        // places 2 and 3 alone reach: together first in way 13 + 6 * 12 + 10, the 95th
        best("one of them", x, 1, 2, 1, 50, 1, 2, 50);
        bought("PLACE 2", x, 2);
        x.rule(5, 94);
        best("just before", x, 1, 2, 1, 94, 1, 2, 94);
        x.rule(5, 95);
        best("both", x, 1, 3, 0, 95, 1, 3, 95);
        bought("PLACE 2, then PLACE 3", x, 2, 3);
        x.rule(4, 1);
        best("the only winner so far", x, 1, 1, 0, 95, 1, 1, 1, 1, 0, 0);
        x.rule(5, 94);
        best("none so far", x, 0, 1, 2, 94, 1, NONE, 0, 0, 0, 0);
        bought("none so far", x);
    }

    /** "MARGIN: LIVES of THE BEST, if it is WON; else NONE." */
    private static void margin() {
        TowersAndWaves x = gates(1, 0, 1, 1, 1);
        x.rule(2, 2);
        x.send(1, 0, 0);
        Check.due("LIVES of one that is not WON", x.best(1), 1);
        Check.due("MARGIN", x.best(5), NONE);
        for (int lives = 2; lives <= 20; lives += 9) {
            x.rule(4, lives);
            Check.due("MARGIN of LIVES " + lives, x.best(5), lives - 1);
        }
        x.clear(1);
        x.rule(4, 1);
        Check.due("MARGIN of 1", x.best(5), 1);
        x.rule(4, 20);
        Check.due("MARGIN of 20", x.best(5), 20);
    }

    /** "WINNERS: how many LINES are WON" */
    private static void winners() {
        TowersAndWaves x = gates(1, 1, 1, 2, 2);
        x.send(0, 0, 0);
        Check.due("6 of 13", x.best(6), 6);
        x.rule(3, 0);
        Check.due("none", x.best(6), 0);
        x.rule(3, 2);
        Check.due("all but that of none", x.best(6), 12);
        x.rule(4, 2);
        Check.due("all", x.best(6), 13);
        x.clear(0);
        x.rule(2, 2);
        Check.due("all of two WAVES", x.best(6), 169);
    }

    /** "USES of a KIND: how many of them BUY it (where the COINS were there)" */
    private static void uses() {
        TowersAndWaves x = gates(1, 1, 1, 1, 2);
        // 1 coin: kinds 0 and 1 alone or as the first that can be paid: 0, 00, 01, 02, 20 and 1, 10, 11, 12, 21
        best("1 COIN", x, 1, 1, 1, 13, 0, 1, 13, 5, 5, 0);
        x.rule(3, 2);
        // 2 coins: both of 00, 01, 10, 11 are paid; behind kind 0 or 1 kind 2 is not, behind kind 2 none is
        best("2 COINS", x, 1, 1, 2, 13, 0, 1, 13, 5, 5, 4);
        x.rule(3, 4);
        // all are paid: a kind that is replaced in its wave counts, and one that is bought twice counts once
        best("4 COINS", x, 1, 1, 4, 13, 0, 1, 13, 6, 6, 6);
        x.rule(3, 0);
        best("0 COINS", x, 1, 1, 0, 13, 0, 1, 13, 0, 0, 0);
        x.rule(3, 4);
        x.creep(0, 0, 11);
        x.tower(2, 2, 11);
        x.send(0, 0, 0);
        // kind 2 alone wins, and it stands last in 2, 02, 12, 22
        best("those of WINNERS alone", x, 1, 1, 2, 13, 0, 1, 4, 1, 1, 4);
    }

    /** "BUY b of a WAVE in THE BEST: 4 times its KIND, and its PLACE; NONE: there is none such." */
    private static void boughtAtEachPlace() {
        for (int place = 0; place < 4; place++) {
            for (int kind = 0; kind < 3; kind++) {
                TowersAndWaves x = gates(4, 1, kind == 0 ? 1 : 2, kind == 1 ? 1 : 2, kind == 2 ? 1 : 2);
                for (int other = 0; other < 4; other++) {
                    x.spot(other, 1, other == place ? 0 : 1);
                }
                x.send(0, 0, 0);
                bought("KIND " + kind + " at PLACE " + place, x, 4 * kind + place);
                x.take();
                Check.due("taken", x.during(0, 3 + place), kind);
            }
        }
        TowersAndWaves x = gates(4, 1, 1, 1, 1);
        x.rule(2, 4);
        x.send(3, 0, 0);
        bought("in the last WAVE", x, NONE, NONE, NONE, NONE, NONE, NONE, 0, NONE);
        x.rule(2, 3);
        bought("in none of three", x);
    }

    /** "THE LINE becomes THE BEST: 1." */
    private static void taken() {
        TowersAndWaves x = gates(2, 10, 1, 2, 3);
        x.buy(0, 0, 1, 2);
        x.buy(0, 1, 0, 1);
        x.buy(3, 0, 0, 0);
        Check.due("take() of none", x.take(), 1);
        Check.due("nothing is bought", x.play(2), 10);
        x.rule(2, 4);
        Check.due("nor later", x.play(2), 10);
        x.rule(2, 1);
        x.send(0, 0, 0);
        x.send(0, 0, 0);
        Check.due("the LINE stays till it is taken", x.play(0), 0);
        Check.due("take() of two", x.take(), 1);
        Check.due("it is WON", x.play(0), 1);
        Check.due("PLACE 0", x.during(0, 3), 0);
        Check.due("PLACE 1", x.during(0, 4), 0);
        x.clear(0);
        Check.due("the LINE stays behind a change", x.play(2), 8);
        Check.due("and THE BEST does not", x.bought(0, 0), NONE);
        x.buy(0, 1, 1, NONE);
        Check.due("one BUY of it is taken back", x.play(2), 9);
        Check.due("take() again", x.take(), 1);
        Check.due("take() twice", x.take(), 1);
        Check.due("none again", x.play(2), 10);
    }

    /** "IDLE: the WAVE in which the LINE without BUYS is LOST; NONE: it is WON." */
    private static void idle() {
        TowersAndWaves x = gates(1, 10, 1, 1, 1);
        x.rule(2, 4);
        x.buy(0, 0, 0, 0);
        for (int wave = 3; wave >= 0; wave--) {
            x.send(wave, 0, 0);
            Check.due("LOST in WAVE " + wave, x.lost(), wave);
            Check.due("THE LINE is WON", x.play(0), 4);
        }
        for (int lives = 1; lives <= 5; lives++) {
            x.rule(4, lives);
            Check.due("LIVES " + lives, x.lost(), lives <= 4 ? lives - 1 : NONE);
        }
        x.rule(4, 3);
        for (int w = 1; w <= 4; w++) {
            x.rule(2, w);
            Check.due("of " + w + " WAVES", x.lost(), w >= 3 ? 2 : NONE);
        }
    }
}
