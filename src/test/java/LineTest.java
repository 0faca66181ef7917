/** Promises 8 to 11: buy, idle, play, during; each number worked out by hand from part 2 of the terms. */
public final class LineTest {
    private static final int NONE = -1, UNKNOWN = -1001, OUTSIDE = -1002, NOT = -1003;
    private static final int[] WRONG = {Integer.MIN_VALUE, 1 << 30, Integer.MAX_VALUE};

    public static void main(String[] args) {
        refusals();
        paces();
        reaches();
        whoIsHit();
        hitsAndRest();
        armour();
        money();
        placesBeyond();
        wavesFollow();
        losing();
        Check.end();
    }

    private static void play(String name, TowersAndWaves x, int... want) {
        for (int what = 0; what < want.length; what++) {
            Check.due(name + ": play(" + what + ")", x.play(what), want[what]);
        }
    }

    /** One tower of kind 2 at place 0 that hits at cell 0 alone. */
    private static TowersAndWaves gate(int rest) {
        TowersAndWaves x = new TowersAndWaves();
        x.rule(3, 25);
        x.spot(0, 0, 0);
        x.spot(0, 1, 0);
        x.tower(2, 1, 0);
        x.tower(2, 3, rest);
        x.buy(0, 0, 0, 2);
        return x;
    }

    private static void refusals() {
        TowersAndWaves x = new TowersAndWaves();
        Check.due("buy(4, 2, 4, 3)", x.buy(4, 2, 4, 3), UNKNOWN);
        Check.due("buy(0, 2, 4, 0)", x.buy(0, 2, 4, 0), UNKNOWN);
        Check.due("buy(0, 2, 0, 3)", x.buy(0, 2, 0, 3), UNKNOWN);
        Check.due("buy(0, 0, 0, -2)", x.buy(0, 0, 0, -2), UNKNOWN);
        Check.due("buy(0, 0, 4, NONE)", x.buy(0, 0, 4, NONE), UNKNOWN);
        Check.due("buy(-1, 0, 0, 0)", x.buy(-1, 0, 0, 0), UNKNOWN);
        Check.due("buy(0, 0, -1, 0)", x.buy(0, 0, -1, 0), UNKNOWN);
        Check.due("buy(0, 2, 0, NONE)", x.buy(0, 2, 0, NONE), OUTSIDE);
        Check.due("buy(0, -1, 0, 0)", x.buy(0, -1, 0, 0), OUTSIDE);
        for (int wrong : WRONG) {
            Check.due("buy in a wrong wave", x.buy(wrong, 0, 0, 0), UNKNOWN);
            Check.due("buy of a wrong number", x.buy(0, wrong, 0, 0), OUTSIDE);
            Check.due("buy at a wrong place", x.buy(0, 0, wrong, 0), UNKNOWN);
            Check.due("buy of a wrong kind", x.buy(0, 0, 0, wrong), UNKNOWN);
            Check.due("play of a wrong number", x.play(wrong), OUTSIDE);
            Check.due("during a wrong wave", x.during(wrong, 9), UNKNOWN);
            Check.due("during, a wrong number", x.during(0, wrong), OUTSIDE);
        }
        Check.due("play(-1)", x.play(-1), OUTSIDE);
        Check.due("play(7)", x.play(7), OUTSIDE);
        Check.due("during(4, 7)", x.during(4, 7), UNKNOWN);
        Check.due("during(-1, 0)", x.during(-1, 0), UNKNOWN);
        Check.due("during(1, 7)", x.during(1, 7), OUTSIDE);
        Check.due("during(0, -1)", x.during(0, -1), OUTSIDE);
        Check.due("during(1, 0)", x.during(1, 0), NOT);
        Check.due("during(3, 6)", x.during(3, 6), NOT);
        Check.due("nothing was bought", x.play(2), 20);
    }

    private static void paces() {
        TowersAndWaves x = new TowersAndWaves();
        x.rule(0, 4);
        x.creep(0, 1, 5);
        x.send(0, 0, 9);
        // comes at 9, goes at 14, 19, 24, 29: 30 ticks
        play("pace 5 on 4 cells", x, 1, 4, 20, 30, 0, 1, 0);
        x.rule(0, 16);
        x.send(0, 2, 1);
        // comes at 10, goes at 11 to 26; the first one goes till 9 + 80
        play("two paces on 16 cells", x, 1, 3, 20, 90, 0, 2, 0);
        Check.due("during(0, 2)", x.during(0, 2), 90);
        x.clear(0);
        play("empty", x, 1, 5, 20, 0, 0, 0, 0);
    }

    private static void reaches() {
        TowersAndWaves x = new TowersAndWaves();
        x.creep(2, 0, 200);
        x.send(0, 2, 0);
        x.rule(3, 100);
        x.tower(2, 3, 1);
        x.buy(0, 0, 0, 2);
        // cell 0 at ticks 0 and 1, cell c at tick c + 1; reach 3 - 1 about 2: cells 0 to 4, ticks 0 to 5
        play("reach 2 about cell 2", x, 1, 4, 75, 9, 0, 1, 6);
        x.spot(0, 1, 3);
        play("reach 0", x, 1, 4, 75, 9, 0, 1, 1);
        x.tower(2, 1, 2);
        play("reach below 0", x, 1, 4, 75, 9, 0, 1, 0);
        x.tower(2, 1, 8);
        play("reach 5 about cell 2", x, 1, 4, 75, 9, 0, 1, 9);
        x.rule(0, 4);
        x.spot(0, 0, 6);
        x.spot(0, 1, 0);
        x.tower(2, 1, 3);
        // the path ends at cell 3, ticks 0 to 4: hit at cell 3, tick 4
        play("a spot beyond the path", x, 1, 4, 75, 5, 0, 1, 1);
    }

    private static void whoIsHit() {
        TowersAndWaves x = gate(6);
        x.creep(0, 1, 1);
        x.send(0, 0, 0);
        x.send(0, 2, 0);
        // one hit at tick 0, on the first of the two at cell 0
        play("the one that came first", x, 1, 4, 2, 9, 1, 1, 1);
        x.clear(0);
        x.send(0, 2, 0);
        x.send(0, 0, 0);
        play("the other one first", x, 1, 4, 1, 9, 1, 1, 1);

        x = new TowersAndWaves();
        x.rule(3, 25);
        x.spot(0, 0, 4);
        x.tower(2, 3, 6);
        x.tower(2, 1, 2);
        x.creep(2, 0, 10);
        x.buy(0, 0, 0, 2);
        x.send(0, 0, 0);
        x.send(0, 2, 2);
        // reach 3 to 5: the quick one, of kind 2, is at cell 3 at tick 6, the slow one (cell 3 at 7) too late; rest to 12:
        // at tick 12 the slow one is at cell 5
        play("the farthest on", x, 1, 5, 3, 13, 2, 0, 2);
        x.tower(2, 3, 5);
        play("ready again at 11", x, 1, 5, 3, 12, 2, 0, 2);
    }

    private static void hitsAndRest() {
        TowersAndWaves x = gate(1);
        x.creep(0, 1, 5);
        x.creep(0, 0, 200);
        x.send(0, 0, 3);
        // at cell 0 at ticks 3 to 8, before it goes on at 8
        play("rest 1", x, 1, 4, 0, 44, 0, 1, 6);
        x.tower(2, 3, 2);
        play("rest 2", x, 1, 4, 0, 44, 0, 1, 3);
        x.tower(2, 3, 5);
        play("rest 5", x, 1, 4, 0, 44, 0, 1, 2);
        x.tower(2, 3, 6);
        play("rest 6", x, 1, 4, 0, 44, 0, 1, 1);
        x.creep(0, 0, 10);
        // dead in the tick in which it came, the fourth
        play("dead at once", x, 1, 5, 2, 4, 1, 0, 1);
        x.rule(1, 2);
        x.rule(3, 50);
        x.spot(1, 0, 0);
        x.spot(1, 1, 0);
        x.buy(0, 1, 1, 2);
        play("the second tower finds none to hit", x, 1, 5, 2, 4, 1, 0, 1);
        x.creep(0, 0, 11);
        play("the second tower hits too", x, 1, 5, 2, 4, 1, 0, 2);
    }

    private static void armour() {
        TowersAndWaves x = gate(1);
        x.creep(0, 1, 5);
        x.creep(0, 0, 6);
        x.creep(0, 3, 10);
        x.send(0, 0, 0);
        play("1 at least", x, 1, 5, 2, 6, 1, 0, 6);
        x.creep(0, 3, 8);
        play("power 10 less armour 8", x, 1, 5, 2, 3, 1, 0, 3);
        x.tower(2, 2, 2);
        play("power below armour", x, 1, 5, 2, 6, 1, 0, 6);
    }

    private static void money() {
        TowersAndWaves x = new TowersAndWaves();
        Check.due("buy(0, 0, 0, 0)", x.buy(0, 0, 0, 0), 1);
        Check.due("buy(0, 1, 0, 1)", x.buy(0, 1, 0, 1), 1);
        // 10 are left and 15 asked: the 5 that would come back don't count yet
        Check.due("coins are asked for before any come back", x.play(2), 10);
        Check.due("the kind that stays", x.during(0, 3), 0);
        x.buy(0, 1, 0, 0);
        Check.due("the same kind again", x.play(2), 5);
        x.rule(3, 40);
        x.buy(0, 0, 0, 1);
        x.buy(0, 1, 0, 2);
        // 40 - 15 + 7 - 25
        Check.due("half the cost, cut", x.play(2), 7);
        Check.due("the kind that came", x.during(0, 3), 2);
        x.buy(0, 1, 1, 2);
        Check.due("just the cost", x.play(2), 0);
        x.rule(3, 39);
        Check.due("one coin short", x.play(2), 24);
        Check.due("no tower at place 1", x.during(0, 4), NONE);
        Check.due("buy(0, 0, 2, NONE)", x.buy(0, 0, 2, NONE), 1);
        Check.due("the first buy is none", x.play(2), 14);
        Check.due("place 0", x.during(0, 3), NONE);
        Check.due("place 1", x.during(0, 4), 2);
        Check.due("idle()", x.idle(), 1);
        Check.due("no buys", x.play(2), 39);
        Check.due("place 1 without buys", x.during(0, 4), NONE);
    }

    private static void placesBeyond() {
        TowersAndWaves x = new TowersAndWaves();
        x.rule(3, 100);
        x.buy(0, 0, 2, 0);
        x.buy(0, 1, 3, 1);
        Check.due("places beyond buy nothing", x.play(2), 100);
        x.rule(1, 3);
        Check.due("place 2 buys", x.play(2), 90);
        x.rule(1, 4);
        Check.due("place 3 buys", x.play(2), 75);
        Check.due("during(0, 3)", x.during(0, 3), NONE);
        Check.due("during(0, 4)", x.during(0, 4), NONE);
        Check.due("during(0, 5)", x.during(0, 5), 0);
        Check.due("during(0, 6)", x.during(0, 6), 1);
        x.rule(1, 1);
        Check.due("not any more", x.during(0, 6), NONE);
    }

    private static void wavesFollow() {
        TowersAndWaves x = gate(6);
        x.rule(2, 3);
        x.creep(2, 2, 20);
        x.send(0, 2, 0);
        x.send(1, 2, 0);
        x.send(2, 2, 0);
        x.buy(2, 0, 0, 0);
        x.tower(0, 1, 0);
        // dead at tick 0 of each wave: the tower is ready at each beginning; the third wave's tower has power 3: two hits
        play("three waves", x, 3, 5, 62, 4, 3, 0, 4);
        Check.due("coins behind wave 0", x.during(0, 1), 20);
        Check.due("coins behind wave 1", x.during(1, 1), 40);
        Check.due("coins behind wave 2", x.during(2, 1), 62);
        Check.due("ticks of wave 1", x.during(1, 2), 1);
        Check.due("ticks of wave 2", x.during(2, 2), 2);
        Check.due("the tower in wave 1", x.during(1, 3), 2);
        Check.due("the tower in wave 2", x.during(2, 3), 0);
        Check.due("there is no wave 3", x.during(3, 0), NOT);
        x.rule(2, 4);
        x.buy(3, 0, 1, 0);
        x.buy(3, 1, 0, 2);
        // 62 - 10, then 5 come back for 25
        Check.due("coins behind wave 3", x.play(2), 32);
        Check.due("coins behind wave 3", x.during(3, 1), 32);
        Check.due("place 0 in wave 3", x.during(3, 3), 2);
        Check.due("place 1 in wave 3", x.during(3, 4), 0);
        Check.due("lives behind wave 3", x.play(1), 5);
        x.clear(0);
        x.clear(1);
        x.clear(2);
        Check.due("idle()", x.idle(), 1);
        Check.due("no buys in any wave", x.play(2), 25);
    }

    private static void losing() {
        TowersAndWaves x = new TowersAndWaves();
        x.rule(2, 3);
        x.rule(4, 3);
        x.send(0, 2, 0);
        x.send(1, 2, 0);
        x.send(1, 2, 0);
        x.send(1, 2, 0);
        x.send(1, 2, 8);
        x.send(2, 2, 0);
        // all three are through in one tick, for the two lives that are left; the fourth, come at 8, isn't waited for
        play("lost in wave 1", x, 1, 0, 20, 18, 0, 4, 0);
        Check.due("lives behind wave 0", x.during(0, 0), 2);
        Check.due("lives behind wave 1", x.during(1, 0), 0);
        Check.due("ticks of wave 1", x.during(1, 2), 9);
        Check.due("wave 2 did not come", x.during(2, 0), NOT);
        Check.due("lost()", x.lost(), 1);
        x.rule(4, 4);
        // just as many as there are lives: the fourth one isn't waited for here either
        play("lost to the last life", x, 1, 0, 20, 18, 0, 4, 0);
        x.rule(4, 5);
        play("lost by the fourth", x, 1, 0, 20, 9 + 17, 0, 5, 0);
        x.rule(4, 6);
        play("lost in wave 2", x, 2, 0, 20, 9 + 17 + 9, 0, 6, 0);
        x.rule(4, 7);
        play("won", x, 3, 1, 20, 9 + 17 + 9, 0, 6, 0);
        Check.due("lost(), won", x.lost(), NONE);
    }
}
