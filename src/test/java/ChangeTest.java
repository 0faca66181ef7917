/** Promises 16 and 17: least, hurts. */
public final class ChangeTest {
    private static final int NONE = -1, UNKNOWN = -1001, OUTSIDE = -1002;
    private static final int[] WRONG = {Integer.MIN_VALUE, -1, 1 << 30, Integer.MAX_VALUE};

    public static void main(String[] args) {
        refusals();
        leastOfRules();
        leastOfTowers();
        leastWithinBounds();
        leastWithinLooks();
        hurting();
        nothingChanges();
        Check.end();
    }

    private static void both(String name, TowersAndWaves x, int[] args, int want) {
        Check.due("least, " + name, x.least(args[0], args[1], args[2]), want);
        Check.due("hurts, " + name, x.hurts(args[0], args[1], args[2]), want);
    }

    private static void refusals() {
        TowersAndWaves x = new TowersAndWaves();
        both("of 3", x, new int[] {3, 0, 0}, OUTSIDE);
        both("no fifth number of a tower", x, new int[] {0, 2, 4}, OUTSIDE);
        both("no fifth number of a creep", x, new int[] {1, 2, 4}, OUTSIDE);
        both("no third number of a rule", x, new int[] {2, 0, 2}, OUTSIDE);
        both("kind 3 of a tower", x, new int[] {0, 3, 4}, UNKNOWN);
        both("kind 3 of a creep", x, new int[] {1, 3, 4}, UNKNOWN);
        both("kind 3 of what there is not", x, new int[] {3, 3, 0}, UNKNOWN);
        for (int wrong : WRONG) {
            both("a wrong of", x, new int[] {wrong, 0, 0}, OUTSIDE);
            both("a wrong kind", x, new int[] {0, wrong, 0}, UNKNOWN);
            both("a wrong kind", x, new int[] {1, wrong, 9}, UNKNOWN);
            both("a wrong number", x, new int[] {0, 0, wrong}, OUTSIDE);
            both("a wrong number of a rule", x, new int[] {2, 0, wrong}, OUTSIDE);
            both("the kind of a rule is not looked at", x, new int[] {2, wrong, 0}, 0);
            both("the kind of a rule is not looked at", x, new int[] {2, wrong, 1}, 0);
        }
    }

    /** Lives 1, one creep that the cheapest tower kills at its first hit. */
    private static TowersAndWaves oneCreep(int coins) {
        TowersAndWaves x = new TowersAndWaves();
        x.rule(3, coins);
        x.rule(4, 1);
        x.creep(0, 0, 1);
        x.send(0, 0, 0);
        return x;
    }

    private static void leastOfRules() {
        for (int coins = 0; coins <= 12; coins++) {
            TowersAndWaves x = oneCreep(coins);
            Check.due("coins more, of " + coins, x.least(2, 0, 0), Math.max(0, 10 - coins));
            Check.due("lives more, of " + coins, x.least(2, 0, 1), coins < 10 ? 1 : 0);
        }
        TowersAndWaves x = oneCreep(0);
        x.tower(0, 0, 11);
        x.tower(1, 0, 11);
        x.tower(2, 0, 11);
        Check.due("11 more are too many", x.least(2, 0, 0), NONE);
        x.rule(3, 1);
        Check.due("10 more are not", x.least(2, 0, 0), 10);
    }

    private static void leastOfTowers() {
        TowersAndWaves x = oneCreep(10);
        x.creep(0, 0, 9);
        // one tower of kind 0 hits at ticks 5 and 6, at its own cell alone: power 5 is wanted; farther by one, cells 1 to 3,
        // ticks 3 to 8, six hits of 1; farther by two, eleven
        x.tower(0, 2, 1);
        Check.due("power", x.least(0, 0, 2), 4);
        Check.due("range", x.least(0, 0, 1), 2);
        Check.due("the cost can't help", x.least(0, 0, 0), NONE);
        Check.due("another kind can't help", x.least(0, 1, 2), NONE);
        x.creep(0, 1, 1);
        // 2 hits at a pace of 2 and p at one of p, of power 3
        x.tower(0, 2, 3);
        Check.due("a slower creep", x.least(1, 0, 1), 2);
    }

    private static void leastWithinBounds() {
        TowersAndWaves x = oneCreep(10);
        x.creep(0, 0, 200);
        x.creep(0, 3, 10);
        x.tower(0, 2, 25);
        Check.due("power to 30 is not enough", x.least(0, 0, 2), NONE);
        x.rule(4, 20);
        Check.due("0 is enough at a bound", x.least(2, 0, 1), 0);
        x.rule(0, 16);
        x.rule(4, 1);
        x.rule(3, 100);
        Check.due("no more coins than 100", x.least(2, 0, 0), NONE);
    }

    /** The only winner is a way that the search does not come to: so there is none. */
    private static void leastWithinLooks() {
        TowersAndWaves x = new TowersAndWaves();
        x.rule(1, 4);
        x.rule(3, 20);
        x.rule(4, 1);
        x.rule(5, 50);
        for (int place = 0; place < 3; place++) {
            x.spot(place, 1, 3);
        }
        x.rule(2, 2);
        x.creep(0, 0, 1);
        x.send(1, 0, 0);
        // wave 0 is passed by its first way; then come the 157 of wave 1: 13 of none or one, of which place 3 wins
        Check.due("LOOKS", x.best(3), 50);
        Check.due("found in the looks", x.least(2, 0, 0), 0);
        x.creep(0, 0, 4);
        x.spot(2, 1, 1);
        x.rule(1, 4);
        x.tower(1, 0, 50);
        x.tower(2, 0, 50);
        x.tower(0, 3, 6);
        // two towers are wanted, of places 2 and 3: way 13 + 6 * 12 and more of wave 1, behind the bound
        Check.due("not found in the looks", x.least(2, 0, 0), NONE);
        Check.due("no winner", x.best(6), 0);
        x.rule(5, 150);
        Check.due("found with more looks", x.least(2, 0, 0), 0);
    }

    private static void hurting() {
        TowersAndWaves x = oneCreep(10);
        Check.due("a dearer tower loses the wave", x.hurts(0, 0, 0), 1);
        Check.due("kind 1 is too dear as it is", x.hurts(0, 1, 0), 0);
        Check.due("more coins", x.hurts(2, 0, 0), 0);
        Check.due("more lives", x.hurts(2, 0, 1), 0);
        Check.due("health", x.hurts(1, 0, 0), 0);
        x.rule(4, 2);
        Check.due("as many waves with fewer lives", x.hurts(0, 0, 0), 1);
        x.rule(3, 11);
        Check.due("one coin to spare", x.hurts(0, 0, 0), 0);
        Check.due("fewer coins don't hurt", x.best(2), 3);
        x.creep(0, 3, 10);
        Check.due("armour at its bound", x.hurts(1, 0, 3), NONE);
        x.rule(3, 100);
        Check.due("coins at their bound", x.hurts(2, 0, 0), NONE);
        x.rule(4, 20);
        Check.due("lives at their bound", x.hurts(2, 0, 1), NONE);
        x.tower(0, 3, 6);
        Check.due("rest at its bound", x.hurts(0, 0, 3), NONE);
        x.tower(0, 3, 5);
        Check.due("rest one below its bound", x.hurts(0, 0, 3), 0);
        x.rule(3, 99);
        Check.due("coins one below their bound", x.hurts(2, 0, 0), 0);
    }

    private static void nothingChanges() {
        TowersAndWaves x = oneCreep(5);
        x.buy(0, 0, 0, 0);
        for (int of = 0; of < 3; of++) {
            for (int what = 0; what < (of == 2 ? 2 : 4); what++) {
                x.least(of, 0, what);
                x.hurts(of, 0, what);
            }
        }
        int[] tower = {10, 1, 3, 1};
        int[] creep = {1, 2, 2, 0};
        for (int what = 0; what < 4; what++) {
            Check.due("tower's number", x.tower(0, what, tower[what]), tower[what]);
            Check.due("creep's number", x.creep(0, what, creep[what]), creep[what]);
        }
        Check.due("COINS", x.rule(3, 20), 5);
        Check.due("LIVES", x.rule(4, 5), 1);
        Check.due("the line is kept", x.play(2), 12);
    }
}
