import java.util.ArrayList;
import java.util.Arrays;
import java.util.List;
import java.util.TreeSet;

/** The document's terms once more, as plainly as they can be written: nothing is kept from call to call but the numbers. */
final class Model {
    static final int NONE = -1, UNKNOWN = -1001, OUTSIDE = -1002, NOT = -1003, FULL = -1004;

    static final int[][] RULE_BOUNDS = {{4, 16}, {1, 4}, {1, 4}, {0, 100}, {1, 20}, {50, 500}};
    static final int[][] SPOT_BOUNDS = {{0, 15}, {0, 3}};
    static final int[][] TOWER_BOUNDS = {{1, 50}, {0, 8}, {1, 30}, {1, 6}};
    static final int[][] CREEP_BOUNDS = {{1, 200}, {1, 5}, {0, 20}, {0, 10}};

    private final int[] rules = {8, 2, 1, 20, 5, 300};
    private final int[][] spots = {{2, 1}, {5, 1}, {3, 1}, {6, 1}};
    private final int[][] towers = {{10, 1, 3, 1}, {15, 2, 4, 2}, {25, 3, 10, 3}};
    private final int[][] creeps = {{10, 2, 2, 0}, {20, 3, 5, 1}, {6, 1, 1, 0}};
    private final List<List<int[]>> waves = new ArrayList<>();
    private int[][][] line = new int[4][2][];

    Model() {
        for (int w = 0; w < 4; w++) {
            waves.add(new ArrayList<>());
        }
    }

    private static final class Creep {
        int kind;
        int came;
        int health;
        int cell = 0;
        boolean gone = false;
    }

    private static final class State {
        int lives;
        int coins;
        int[] kindAt = {NONE, NONE, NONE, NONE};
        TreeSet<Integer> kindsBought = new TreeSet<>();

        State copy() {
            State s = new State();
            s.lives = lives;
            s.coins = coins;
            s.kindAt = kindAt.clone();
            s.kindsBought = new TreeSet<>(kindsBought);
            return s;
        }
    }

    private static final class Tally {
        int ticks;
        int dead;
        int through;
        int hits;
    }

    private State beginning() {
        State s = new State();
        s.coins = rules[3];
        s.lives = rules[4];
        return s;
    }

    private void purchase(State s, int[] buy) {
        if (buy == null || buy[0] >= rules[1] || s.coins < towers[buy[1]][0]) {
            return;
        }
        if (s.kindAt[buy[0]] != NONE) {
            s.coins += towers[s.kindAt[buy[0]]][0] / 2;
        }
        s.kindAt[buy[0]] = buy[1];
        s.coins -= towers[buy[1]][0];
        s.kindsBought.add(buy[1]);
    }

    private Tally fight(State s, int wave) {
        Tally tally = new Tally();
        List<Creep> all = new ArrayList<>();
        int time = 0;
        for (int[] sent : waves.get(wave)) {
            Creep c = new Creep();
            c.kind = sent[0];
            time += sent[1];
            c.came = time;
            c.health = creeps[c.kind][0];
            all.add(c);
        }
        int[] hitLast = {-100, -100, -100, -100};
        while (s.lives > 0 && all.stream().anyMatch(c -> !c.gone)) {
            int t = tally.ticks++;
            for (int place = 0; place < 4; place++) {
                int kind = s.kindAt[place];
                if (kind == NONE || t - hitLast[place] < towers[kind][3]) {
                    continue;
                }
                Creep target = null;
                for (Creep c : all) {
                    boolean here = c.came <= t && !c.gone;
                    boolean inReach = Math.abs(c.cell - spots[place][0]) <= towers[kind][1] - spots[place][1];
                    if (here && inReach && (target == null || c.cell > target.cell)) {
                        target = c;
                    }
                }
                if (target == null) {
                    continue;
                }
                hitLast[place] = t;
                tally.hits++;
                target.health -= Math.max(1, towers[kind][2] - creeps[target.kind][3]);
                if (target.health <= 0) {
                    target.gone = true;
                    tally.dead++;
                    s.coins += creeps[target.kind][2];
                }
            }
            for (Creep c : all) {
                if (!c.gone && t > c.came && (t - c.came) % creeps[c.kind][1] == 0) {
                    c.cell++;
                    if (c.cell == rules[0]) {
                        c.gone = true;
                        tally.through++;
                        s.lives = Math.max(0, s.lives - 1);
                    }
                }
            }
        }
        return tally;
    }

    private static final class Played {
        int passed = 0;
        State end;
        Tally sum = new Tally();
        List<State> behind = new ArrayList<>();
        List<Integer> ticks = new ArrayList<>();
    }

    private Played playLine(int[][][] buys) {
        Played p = new Played();
        State s = beginning();
        for (int w = 0; w < rules[2] && s.lives > 0; w++) {
            purchase(s, buys[w][0]);
            purchase(s, buys[w][1]);
            Tally t = fight(s, w);
            p.sum.ticks += t.ticks;
            p.sum.dead += t.dead;
            p.sum.through += t.through;
            p.sum.hits += t.hits;
            p.behind.add(s.copy());
            p.ticks.add(t.ticks);
            if (s.lives > 0) {
                p.passed++;
            }
        }
        p.end = s;
        return p;
    }

    private static final class Sought {
        int passed = 0;
        int lives;
        int coins;
        int looks = 0;
        boolean spent = false;
        int winners = 0;
        int[] uses = new int[3];
        int[][][] line = new int[4][2][];
    }

    private List<int[][]> ways() {
        List<int[]> single = new ArrayList<>();
        for (int place = 0; place < rules[1]; place++) {
            for (int kind = 0; kind < 3; kind++) {
                single.add(new int[] {place, kind});
            }
        }
        List<int[][]> all = new ArrayList<>();
        all.add(new int[][] {null, null});
        for (int[] one : single) {
            all.add(new int[][] {one, null});
        }
        for (int[] one : single) {
            for (int[] two : single) {
                all.add(new int[][] {one, two});
            }
        }
        return all;
    }

    private Sought seek() {
        Sought found = new Sought();
        found.lives = rules[4];
        found.coins = rules[3];
        seek(found, 0, beginning(), new int[4][2][], ways());
        return found;
    }

    private void seek(Sought found, int wave, State before, int[][][] buys, List<int[][]> ways) {
        for (int[][] way : ways) {
            if (found.looks == rules[5]) {
                found.spent = true;
            }
            if (found.spent) {
                return;
            }
            found.looks++;
            State s = before.copy();
            purchase(s, way[0]);
            purchase(s, way[1]);
            fight(s, wave);
            if (s.lives == 0) {
                continue;
            }
            int[][][] longer = buys.clone();
            longer[wave] = way;
            int[] now = {wave + 1, s.lives, s.coins};
            if (Arrays.compare(now, new int[] {found.passed, found.lives, found.coins}) > 0) {
                found.passed = wave + 1;
                found.lives = s.lives;
                found.coins = s.coins;
                found.line = longer;
            }
            if (wave + 1 < rules[2]) {
                seek(found, wave + 1, s, longer, ways);
            } else {
                found.winners++;
                for (int kind : s.kindsBought) {
                    found.uses[kind]++;
                }
            }
        }
    }

    private static boolean in(int v, int low, int high) {
        return low <= v && v <= high;
    }

    private static int change(int[] row, int[][] bounds, int what, int v) {
        if (!in(what, 0, bounds.length - 1) || !in(v, bounds[what][0], bounds[what][1])) {
            return OUTSIDE;
        }
        int was = row[what];
        row[what] = v;
        return was;
    }

    int rule(int what, int v) {
        return change(rules, RULE_BOUNDS, what, v);
    }

    int spot(int k, int what, int v) {
        return in(k, 0, 3) ? change(spots[k], SPOT_BOUNDS, what, v) : OUTSIDE;
    }

    int tower(int kind, int what, int v) {
        return in(kind, 0, 2) ? change(towers[kind], TOWER_BOUNDS, what, v) : UNKNOWN;
    }

    int creep(int kind, int what, int v) {
        return in(kind, 0, 2) ? change(creeps[kind], CREEP_BOUNDS, what, v) : UNKNOWN;
    }

    int send(int wave, int kind, int ticks) {
        if (!in(wave, 0, 3) || !in(kind, 0, 2)) {
            return UNKNOWN;
        }
        if (!in(ticks, 0, 9)) {
            return OUTSIDE;
        }
        if (waves.get(wave).size() == 8) {
            return FULL;
        }
        waves.get(wave).add(new int[] {kind, ticks});
        return waves.get(wave).size();
    }

    int clear(int wave) {
        if (!in(wave, 0, 3)) {
            return UNKNOWN;
        }
        int had = waves.get(wave).size();
        waves.get(wave).clear();
        return had;
    }

    int buy(int wave, int b, int place, int kind) {
        if (!in(wave, 0, 3) || !in(place, 0, 3) || !in(kind, NONE, 2)) {
            return UNKNOWN;
        }
        if (!in(b, 0, 1)) {
            return OUTSIDE;
        }
        line[wave][b] = kind == NONE ? null : new int[] {place, kind};
        return 1;
    }

    int idle() {
        line = new int[4][2][];
        return 1;
    }

    int play(int what) {
        if (!in(what, 0, 6)) {
            return OUTSIDE;
        }
        Played p = playLine(line);
        int[] answers = {p.passed, p.end.lives, p.end.coins, p.sum.ticks, p.sum.dead, p.sum.through, p.sum.hits};
        return answers[what];
    }

    int during(int wave, int what) {
        if (!in(wave, 0, 3)) {
            return UNKNOWN;
        }
        if (!in(what, 0, 6)) {
            return OUTSIDE;
        }
        Played p = playLine(line);
        if (wave >= p.behind.size()) {
            return NOT;
        }
        State s = p.behind.get(wave);
        int[] answers = {s.lives, s.coins, p.ticks.get(wave), s.kindAt[0], s.kindAt[1], s.kindAt[2], s.kindAt[3]};
        return answers[what];
    }

    int best(int what) {
        if (!in(what, 0, 9)) {
            return OUTSIDE;
        }
        Sought f = seek();
        int margin = f.passed == rules[2] ? f.lives : NONE;
        int[] answers = {f.passed, f.lives, f.coins, f.looks, f.spent ? 1 : 0, margin, f.winners,
            f.uses[0], f.uses[1], f.uses[2]};
        return answers[what];
    }

    int bought(int wave, int b) {
        if (!in(wave, 0, 3)) {
            return UNKNOWN;
        }
        if (!in(b, 0, 1)) {
            return OUTSIDE;
        }
        int[] buy = seek().line[wave][b];
        return buy == null ? NONE : 4 * buy[1] + buy[0];
    }

    int take() {
        int[][][] found = seek().line;
        line = new int[4][2][];
        for (int wave = 0; wave < 4; wave++) {
            line[wave] = found[wave].clone();
        }
        return 1;
    }

    int lost() {
        Played p = playLine(new int[4][2][]);
        return p.passed == rules[2] ? NONE : p.passed;
    }

    private int refusal(int of, int kind, int what) {
        if (of != 2 && !in(kind, 0, 2)) {
            return UNKNOWN;
        }
        return in(of, 0, 2) && in(what, 0, of == 2 ? 1 : 3) ? 0 : OUTSIDE;
    }

    private int[] rowOf(int of, int kind) {
        return of == 0 ? towers[kind] : of == 1 ? creeps[kind] : rules;
    }

    private int mostOf(int of, int what) {
        return of == 0 ? TOWER_BOUNDS[what][1] : of == 1 ? CREEP_BOUNDS[what][1] : RULE_BOUNDS[what + 3][1];
    }

    int least(int of, int kind, int what) {
        if (refusal(of, kind, what) != 0) {
            return refusal(of, kind, what);
        }
        int[] row = rowOf(of, kind);
        int at = of == 2 ? what + 3 : what;
        int was = row[at];
        for (int k = 0; k <= 10; k++) {
            if (was + k > mostOf(of, what)) {
                return NONE;
            }
            row[at] = was + k;
            boolean won = seek().winners > 0;
            row[at] = was;
            if (won) {
                return k;
            }
        }
        return NONE;
    }

    int hurts(int of, int kind, int what) {
        if (refusal(of, kind, what) != 0) {
            return refusal(of, kind, what);
        }
        int[] row = rowOf(of, kind);
        int at = of == 2 ? what + 3 : what;
        if (row[at] == mostOf(of, what)) {
            return NONE;
        }
        Sought now = seek();
        row[at]++;
        Sought then = seek();
        row[at]--;
        return then.passed < now.passed || then.passed == now.passed && then.lives < now.lives ? 1 : 0;
    }
}
