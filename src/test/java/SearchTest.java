/** Promises 12 to 15: best, bought, take, lost. */
public final class SearchTest {
    private static final int NONE = -1, UNKNOWN = -1001, OUTSIDE = -1002;
    private static final int[] WRONG = {Integer.MIN_VALUE, -1, 1 << 30, Integer.MAX_VALUE};

    public static void main(String[] args) {
        refusals();
        ways();
        looksAndBound();
        uses();
        noWavePassed();
        someWavesPassed();
        whatIsBest();
        soughtAnew();
        fewWinners();
        lastWave();
        taking();
        losing();
        Check.end();
    }

    private static void best(String name, TowersAndWaves x, int... want) {
        for (int what = 0; what < want.length; what++) {
            Check.due(name + ": best(" + what + ")", x.best(what), want[what]);
        }
    }

    private static void refusals() {
        TowersAndWaves x = new TowersAndWaves();
        for (int wrong : WRONG) {
            Check.due("best of a wrong number", x.best(wrong), OUTSIDE);
            Check.due("bought in a wrong wave", x.bought(wrong, 9), UNKNOWN);
            Check.due("bought, a wrong buy", x.bought(3, wrong), OUTSIDE);
        }
        Check.due("best(10)", x.best(10), OUTSIDE);
        Check.due("bought(4, 2)", x.bought(4, 2), UNKNOWN);
        Check.due("bought(0, 2)", x.bought(0, 2), OUTSIDE);
        Check.due("bought(3, 1)", x.bought(3, 1), NONE);
    }

    /** 1 way of none, 3 P of one, 9 P P of two. */
    private static void ways() {
        int[] want = {13, 43, 91, 157};
        for (int p = 1; p <= 4; p++) {
            TowersAndWaves x = new TowersAndWaves();
            x.rule(1, p);
            Check.due("LOOKS", x.best(3), want[p - 1]);
            Check.due("WINNERS", x.best(6), want[p - 1]);
            Check.due("SPENT", x.best(4), 0);
        }
    }

    private static void looksAndBound() {
        TowersAndWaves x = new TowersAndWaves();
        x.rule(1, 1);
        x.rule(2, 2);
        x.rule(5, 182);
        // 13 ways, each with 13 more behind it
        best("just the bound", x, 2, 5, 20, 182, 0, 5, 169);
        x.rule(5, 181);
        best("one less", x, 2, 5, 20, 181, 1, 5, 168);
        x.rule(5, 50);
        best("50", x, 2, 5, 20, 50, 1, 5, 46);
        x.rule(2, 4);
        // down to the first way of wave 3: 3 looks, 13 of wave 3, then each way of wave 2 with 13 of wave 3
        best("four waves", x, 4, 5, 20, 50, 1, 5, 44);
        x.rule(2, 1);
        best("one wave", x, 1, 5, 20, 13, 0, 5, 13);
    }

    private static void uses() {
        TowersAndWaves x = new TowersAndWaves();
        x.rule(1, 1);
        // kind 0: 0, 00, 01, 02, 20; kind 1: 1, 10, 11, 12, 21; kind 2 costs too much
        best("20 coins", x, 1, 5, 20, 13, 0, 5, 13, 5, 5, 0);
        x.rule(3, 9);
        best("9 coins", x, 1, 5, 9, 13, 0, 5, 13, 0, 0, 0);
        x.rule(3, 100);
        best("100 coins", x, 1, 5, 100, 13, 0, 5, 13, 6, 6, 6);
    }

    private static void noWavePassed() {
        TowersAndWaves x = new TowersAndWaves();
        x.rule(2, 2);
        x.rule(4, 1);
        x.rule(3, 33);
        x.creep(0, 0, 200);
        x.send(0, 0, 0);
        best("none passed", x, 0, 1, 33, 43, 0, NONE, 0, 0, 0, 0);
        for (int wave = 0; wave < 4; wave++) {
            Check.due("bought nothing", x.bought(wave, 0), NONE);
            Check.due("bought nothing", x.bought(wave, 1), NONE);
        }
        Check.due("take()", x.take(), 1);
        Check.due("the line buys nothing", x.play(2), 33);
    }

    /** Wave 0 is passed with a tower of kind 2 alone, wave 1 never: what is best buys in wave 0 and no more. */
    private static void someWavesPassed() {
        TowersAndWaves x = new TowersAndWaves();
        x.rule(1, 1);
        x.rule(2, 2);
        x.rule(3, 60);
        x.rule(4, 1);
        x.send(0, 1, 0);
        x.send(1, 0, 0);
        x.creep(0, 0, 200);
        x.creep(1, 0, 40);
        // power 10 less armour 1: 9 a hit; cells 0 to 4, ticks 0 to 15, rest 3: six hits, 54; with 4 less 1, cells 1 to 3,
        // ticks 4 to 12, rest 2: five hits, 15; with 3 less 1, cell 2, ticks 7 to 9: 6
        best("wave 0 alone", x, 1, 1, 40, 13 + 4 * 13, 0, NONE, 0, 0, 0, 0);
        Check.due("bought(0, 0)", x.bought(0, 0), 8);
        Check.due("bought(0, 1)", x.bought(0, 1), NONE);
        Check.due("bought(1, 0)", x.bought(1, 0), NONE);
        Check.due("take()", x.take(), 1);
        Check.due("the first wave is passed", x.play(0), 1);
        Check.due("coins behind it", x.during(0, 1), 40);
        Check.due("a tower of kind 2", x.during(0, 3), 2);
    }

    private static void whatIsBest() {
        TowersAndWaves x = new TowersAndWaves();
        x.rule(3, 10);
        x.creep(2, 0, 1);
        x.send(0, 2, 0);
        // either place will do, and the prize is 1: the first place
        best("the first of like ones", x, 1, 5, 1, 43, 0, 5, 43);
        Check.due("bought(0, 0)", x.bought(0, 0), 0);
        x.spot(0, 1, 3);
        Check.due("place 0 is too deep", x.bought(0, 0), 1);
        x.spot(0, 1, 1);
        x.rule(3, 15);
        Check.due("the cheaper one leaves more", x.bought(0, 0), 0);
        Check.due("COINS", x.best(2), 6);
        x.tower(1, 0, 9);
        Check.due("kind 1 is the cheaper one now", x.bought(0, 0), 4);
        Check.due("COINS", x.best(2), 7);
        x.tower(0, 0, 9);
        Check.due("places, then kinds", x.bought(0, 0), 0);
        x.send(0, 2, 0);
        x.send(0, 2, 0);
        x.send(0, 2, 0);
        x.send(0, 2, 0);
        x.send(0, 2, 0);
        // one hits at cell 2 (one hit of rest 1); kind 1 at cells 1 to 3 twice; kind 2 can't be paid
        Check.due("lives before coins", x.best(1), 1);
        Check.due("kind 1 at place 0", x.bought(0, 0), 4);
        Check.due("one alone can be paid", x.bought(0, 1), NONE);
        x.rule(3, 18);
        Check.due("two towers", x.best(1), 3);
        Check.due("place 0", x.bought(0, 0), 4);
        Check.due("place 1", x.bought(0, 1), 5);
        x.clear(0);
        Check.due("nothing is wanted against an empty wave", x.bought(0, 0), NONE);
        Check.due("all lives are left", x.best(1), 5);
    }

    /** What is best is told anew after each change of a number. */
    private static void soughtAnew() {
        TowersAndWaves x = new TowersAndWaves();
        x.rule(1, 1);
        x.rule(3, 10);
        x.rule(4, 1);
        x.creep(0, 0, 6);
        x.send(0, 0, 0);
        // kind 0 alone can be paid: alone, before or behind another one that can't, or twice
        best("kind 0 wins", x, 1, 1, 2, 13, 0, 1, 6, 6, 0, 0);
        x.tower(0, 2, 2);
        best("its power is too little", x, 0, 1, 10, 13, 0, NONE, 0, 0, 0, 0);
        Check.due("nothing is bought where none wins", x.bought(0, 0), NONE);
        x.tower(0, 2, 3);
        Check.due("bought again", x.bought(0, 0), 0);
        x.creep(0, 0, 7);
        Check.due("the creep lives on", x.best(6), 0);
        x.creep(0, 0, 6);
        x.spot(0, 1, 2);
        Check.due("the tower is too deep", x.best(6), 0);
        x.spot(0, 1, 1);
        x.send(0, 0, 0);
        Check.due("two creeps", x.best(6), 0);
        x.clear(0);
        Check.due("no creep", x.best(6), 13);
    }

    /** It takes two towers of kind 0 at two places: of 43 lines two win, the places in their order and the other way round. */
    private static void fewWinners() {
        TowersAndWaves x = new TowersAndWaves();
        x.rule(4, 1);
        x.tower(1, 0, 50);
        x.tower(2, 0, 50);
        x.creep(0, 0, 12);
        x.send(0, 0, 0);
        best("two winners", x, 1, 1, 2, 43, 0, 1, 2, 2, 0, 0);
        Check.due("place 0 first", x.bought(0, 0), 0);
        Check.due("then place 1", x.bought(0, 1), 1);
        x.rule(1, 4);
        x.rule(5, 50);
        x.spot(1, 1, 3);
        x.spot(3, 1, 3);
        // places 0 and 2 alone reach the path, and place 2 first comes behind the bound
        best("one winner", x, 1, 1, 2, 50, 1, 1, 1, 1, 0, 0);
        Check.due("then place 2", x.bought(0, 1), 2);
    }

    /** Three empty waves and one creep in the last: the first winner buys as late as it can. */
    private static void lastWave() {
        TowersAndWaves x = new TowersAndWaves();
        x.rule(1, 1);
        x.rule(2, 4);
        x.rule(3, 10);
        x.rule(4, 1);
        x.creep(0, 0, 6);
        x.send(3, 0, 0);
        best("the last wave", x, 4, 1, 2, 300, 1, 1);
        for (int wave = 0; wave < 3; wave++) {
            Check.due("nothing in wave " + wave, x.bought(wave, 0), NONE);
        }
        Check.due("kind 0 in wave 3", x.bought(3, 0), 0);
        Check.due("take()", x.take(), 1);
        Check.due("it is won", x.play(0), 4);
        Check.due("COINS behind wave 2", x.during(2, 1), 10);
        Check.due("COINS behind wave 3", x.during(3, 1), 2);
    }

    private static void taking() {
        TowersAndWaves x = new TowersAndWaves();
        x.rule(3, 60);
        x.rule(4, 1);
        x.send(0, 1, 0);
        x.buy(0, 0, 1, 0);
        x.buy(0, 1, 1, 1);
        x.buy(3, 0, 1, 0);
        Check.due("take()", x.take(), 1);
        Check.due("LIVES", x.play(1), x.best(1));
        Check.due("COINS", x.play(2), x.best(2));
        Check.due("THE BEST is won", x.play(0), 1);
        int coins = x.play(2);
        x.rule(2, 4);
        Check.due("nothing is left of the line's later waves", x.during(3, 1), coins);
        x.rule(2, 1);
        x.idle();
        Check.due("the best is none of the line's", x.best(0), 1);
        Check.due("the line is idle", x.play(0), 0);
    }

    private static void losing() {
        TowersAndWaves x = new TowersAndWaves();
        x.rule(4, 1);
        Check.due("empty waves are passed", x.lost(), NONE);
        x.send(3, 0, 0);
        Check.due("wave 3 is none of the waves", x.lost(), NONE);
        x.rule(2, 4);
        Check.due("lost in wave 3", x.lost(), 3);
        x.buy(0, 0, 1, 1);
        x.creep(0, 0, 1);
        Check.due("the line wins", x.play(0), 4);
        Check.due("lost() without its buys", x.lost(), 3);
        Check.due("the line is kept", x.play(0), 4);
        x.send(0, 0, 0);
        Check.due("lost in wave 0", x.lost(), 0);
    }
}
