/** Games of towers against waves of creeps, in whole ticks: played along one line of buys, or sought over all lines. */
public final class TowersAndWaves {
    public static final int NONE = -1, UNKNOWN = -1001, OUTSIDE = -1002, NOT = -1003, FULL = -1004;

    private static final int KINDS = 3, PLACES = 4, WAVES = 4, CREEPS = 8, BUYS = 2;
    private static final int MOST_GAP = 9, MOST_CHANGE = 10;

    // The columns of the four tables.
    private static final int LENGTH = 0, PLACE_COUNT = 1, WAVE_COUNT = 2, COINS = 3, LIVES = 4, BOUND = 5;
    private static final int SPOT = 0, DEPTH = 1;
    private static final int COST = 0, RANGE = 1, POWER = 2, REST = 3;
    private static final int HEALTH = 0, PACE = 1, PRIZE = 2, ARMOUR = 3;

    private static final int[] RULE_LOW = {4, 1, 1, 0, 1, 50};
    private static final int[] RULE_HIGH = {16, 4, 4, 100, 20, 500};
    private static final int[] RULE_FIRST = {8, 2, 1, 20, 5, 300};
    private static final int[] SPOT_LOW = {0, 0};
    private static final int[] SPOT_HIGH = {15, 3};
    private static final int[] SPOT_FIRST = {2, 1, 5, 1, 3, 1, 6, 1};
    private static final int[] TOWER_LOW = {1, 0, 1, 1};
    private static final int[] TOWER_HIGH = {50, 8, 30, 6};
    private static final int[] TOWER_FIRST = {10, 1, 3, 1, 15, 2, 4, 2, 25, 3, 10, 3};
    private static final int[] CREEP_LOW = {1, 1, 0, 0};
    private static final int[] CREEP_HIGH = {200, 5, 20, 10};
    private static final int[] CREEP_FIRST = {10, 2, 2, 0, 20, 3, 5, 1, 6, 1, 1, 0};

    // What least and hurts may ask of.
    private static final int OF_TOWER = 0, OF_CREEP = 1, OF_RULE = 2;
    private static final int LAST_NUMBER = 3, LAST_RULE_NUMBER = 1;

    // The last creep comes at tick 72 at the latest and has gone 80 ticks later.
    private static final int MOST_TICKS = 200;

    // More than a wave has creeps, so that a fight with so many lives goes on to the wave's end.
    private static final int AMPLE_LIVES = 100;

    // Buys are held as 4 * kind + place; these are all of them by places, then kinds.
    private static final int[] BUYS_IN_ORDER = {0, 4, 8, 1, 5, 9, 2, 6, 10, 3, 7, 11};

    // The towers of all places are held in one number, two bits a place: 0 none, else kind + 1.
    private static final int TOWER_BITS = 2, TOWER_MASK = 3, TOWER_SETS = 256;

    // A wave of eight creeps earns 160 coins at most.
    private static final int EARNED_BITS = 8, EARNED_MASK = 255;

    private final Game game;
    private final Line line;
    private final Line emptyLine;
    private final Play played;
    private final Search told;
    private final Search trial;

    public TowersAndWaves() {
        game = new Game();
        line = new Line();
        emptyLine = new Line();
        Battle battle = new Battle(game);
        played = new Play(game, battle);
        told = new Search(game, battle);
        trial = new Search(game, battle);
    }

    public int rule(int what, int v) {
        return changeNumber(game.rules, 0, what, v);
    }

    public int spot(int k, int what, int v) {
        return changeNumber(game.spots, k, what, v);
    }

    public int tower(int kind, int what, int v) {
        if (!isKind(kind)) {
            return UNKNOWN;
        }
        return changeNumber(game.towers, kind, what, v);
    }

    public int creep(int kind, int what, int v) {
        if (!isKind(kind)) {
            return UNKNOWN;
        }
        return changeNumber(game.creeps, kind, what, v);
    }

    public int send(int wave, int kind, int ticks) {
        if (!isWave(wave) || !isKind(kind)) {
            return UNKNOWN;
        }
        if (ticks < 0 || ticks > MOST_GAP) {
            return OUTSIDE;
        }
        told.forget();
        return game.waves.append(wave, kind, ticks);
    }

    public int clear(int wave) {
        if (!isWave(wave)) {
            return UNKNOWN;
        }
        told.forget();
        return game.waves.empty(wave);
    }

    public int buy(int wave, int b, int place, int kind) {
        boolean isPlace = place >= 0 && place < PLACES;
        if (!isWave(wave) || !isPlace || (kind != NONE && !isKind(kind))) {
            return UNKNOWN;
        }
        if (!isBuy(b)) {
            return OUTSIDE;
        }
        line.put(wave, b, kind == NONE ? NONE : 4 * kind + place);
        return 1;
    }

    public int idle() {
        line.become(emptyLine, 0);
        return 1;
    }

    public int play(int what) {
        if (what < 0 || what > 6) {
            return OUTSIDE;
        }
        played.run(line);
        switch (what) {
            case 0: return played.passed;
            case 1: return played.livesLeft();
            case 2: return played.coinsLeft();
            case 3: return played.ticks;
            case 4: return played.dead;
            case 5: return played.through;
            default: return played.hits;
        }
    }

    public int during(int wave, int what) {
        if (!isWave(wave)) {
            return UNKNOWN;
        }
        if (what < 0 || what > 6) {
            return OUTSIDE;
        }
        played.run(line);
        if (wave >= played.begun) {
            return NOT;
        }
        switch (what) {
            case 0: return played.camps.lives[wave + 1];
            case 1: return played.camps.coins[wave + 1];
            case 2: return played.waveTicks[wave];
            default: return kindAt(played.camps.towers[wave + 1], what - 3);
        }
    }

    public int best(int what) {
        if (what < 0 || what > 9) {
            return OUTSIDE;
        }
        told.seekAll();
        switch (what) {
            case 0: return told.passed;
            case 1: return told.lives;
            case 2: return told.coins;
            case 3: return told.looks;
            case 4: return told.spent ? 1 : 0;
            case 5: return told.winners > 0 ? told.lives : NONE;
            case 6: return told.winners;
            default: return told.uses[what - 7];
        }
    }

    public int bought(int wave, int b) {
        if (!isWave(wave)) {
            return UNKNOWN;
        }
        if (!isBuy(b)) {
            return OUTSIDE;
        }
        told.seekAll();
        return told.top.at(wave, b);
    }

    public int take() {
        told.seekAll();
        line.become(told.top, WAVES);
        return 1;
    }

    public int lost() {
        played.run(emptyLine);
        return played.passed == game.rules.get(0, WAVE_COUNT) ? NONE : played.passed;
    }

    public int least(int of, int kind, int what) {
        int refusal = refusalOf(of, kind, what);
        if (refusal != 0) {
            return refusal;
        }
        Table table = tableOf(of);
        int row = rowOf(of, kind);
        int column = columnOf(of, what);
        int before = table.get(row, column);
        int answer = NONE;
        for (int k = 0; k <= MOST_CHANGE && answer == NONE && table.allows(column, before + k); k++) {
            table.swap(row, column, before + k);
            if (trial.findsWinner()) {
                answer = k;
            }
        }
        table.swap(row, column, before);
        return answer;
    }

    public int hurts(int of, int kind, int what) {
        int refusal = refusalOf(of, kind, what);
        if (refusal != 0) {
            return refusal;
        }
        Table table = tableOf(of);
        int row = rowOf(of, kind);
        int column = columnOf(of, what);
        int before = table.get(row, column);
        if (!table.allows(column, before + 1)) {
            return NONE;
        }
        told.seekAll();
        table.swap(row, column, before + 1);
        trial.forget();
        trial.seekAll();
        table.swap(row, column, before);
        boolean fewerWaves = trial.passed < told.passed;
        boolean fewerLives = trial.passed == told.passed && trial.lives < told.lives;
        return fewerWaves || fewerLives ? 1 : 0;
    }

    private int changeNumber(Table table, int row, int column, int v) {
        int before = table.swap(row, column, v);
        if (before != OUTSIDE) {
            told.forget();
        }
        return before;
    }

    /** 0 if least and hurts may look at that number. Coins and lives have no kind, so any kind will do there. */
    private static int refusalOf(int of, int kind, int what) {
        if (of != OF_RULE && !isKind(kind)) {
            return UNKNOWN;
        }
        if (of < OF_TOWER || of > OF_RULE) {
            return OUTSIDE;
        }
        int last = of == OF_RULE ? LAST_RULE_NUMBER : LAST_NUMBER;
        return what < 0 || what > last ? OUTSIDE : 0;
    }

    private Table tableOf(int of) {
        if (of == OF_TOWER) {
            return game.towers;
        }
        return of == OF_CREEP ? game.creeps : game.rules;
    }

    private static int rowOf(int of, int kind) {
        return of == OF_RULE ? 0 : kind;
    }

    private static int columnOf(int of, int what) {
        return of == OF_RULE ? COINS + what : what;
    }

    private static boolean isKind(int kind) {
        return kind >= 0 && kind < KINDS;
    }

    private static boolean isWave(int wave) {
        return wave >= 0 && wave < WAVES;
    }

    private static boolean isBuy(int b) {
        return b >= 0 && b < BUYS;
    }

    private static int kindAt(int towers, int place) {
        return (towers >> (TOWER_BITS * place) & TOWER_MASK) - 1;
    }

    /** Rows of numbers; each column has bounds of its own. */
    private static final class Table {
        private final int[] low;
        private final int[] high;
        private final int[] values;
        private final int rows;

        Table(int rows, int[] low, int[] high, int[] first) {
            this.rows = rows;
            this.low = low;
            this.high = high;
            this.values = first.clone();
        }

        boolean allows(int column, int v) {
            return column >= 0 && column < low.length && column < high.length
                && v >= low[column] && v <= high[column];
        }

        int get(int row, int column) {
            int at = row * low.length + column;
            return at >= 0 && at < values.length ? values[at] : 0;
        }

        /** What the number was, or OUTSIDE, which no number is, and then it stays. */
        int swap(int row, int column, int v) {
            if (row < 0 || row >= rows || !allows(column, v)) {
                return OUTSIDE;
            }
            int at = row * low.length + column;
            if (at >= values.length) {
                return OUTSIDE;
            }
            int before = values[at];
            values[at] = v;
            return before;
        }
    }

    /** The creeps of each wave, in the order of their coming. */
    private static final class Waves {
        private final int[] sizes = new int[WAVES];
        private final int[] kinds = new int[WAVES * CREEPS];
        private final int[] gaps = new int[WAVES * CREEPS];

        int size(int wave) {
            return isWave(wave) ? sizes[wave] : 0;
        }

        int kind(int wave, int i) {
            return isWave(wave) && i >= 0 && i < CREEPS ? kinds[wave * CREEPS + i] : 0;
        }

        int gap(int wave, int i) {
            return isWave(wave) && i >= 0 && i < CREEPS ? gaps[wave * CREEPS + i] : 0;
        }

        int append(int wave, int kind, int gap) {
            int size = size(wave);
            if (!isWave(wave) || size < 0 || size >= CREEPS) {
                return FULL;
            }
            kinds[wave * CREEPS + size] = kind;
            gaps[wave * CREEPS + size] = gap;
            sizes[wave] = size + 1;
            return size + 1;
        }

        int empty(int wave) {
            int size = size(wave);
            if (isWave(wave)) {
                sizes[wave] = 0;
            }
            return size;
        }
    }

    /** All that a game is told by. */
    private static final class Game {
        final Table rules = new Table(1, RULE_LOW, RULE_HIGH, RULE_FIRST);
        final Table spots = new Table(PLACES, SPOT_LOW, SPOT_HIGH, SPOT_FIRST);
        final Table towers = new Table(KINDS, TOWER_LOW, TOWER_HIGH, TOWER_FIRST);
        final Table creeps = new Table(KINDS, CREEP_LOW, CREEP_HIGH, CREEP_FIRST);
        final Waves waves = new Waves();
    }

    /** The buys of each wave, NONE where there is none. */
    private static final class Line {
        private final int[] buys = new int[WAVES * BUYS];

        Line() {
            for (int i = 0; i < buys.length; i++) {
                buys[i] = NONE;
            }
        }

        int at(int wave, int b) {
            return isWave(wave) && isBuy(b) ? buys[wave * BUYS + b] : NONE;
        }

        void put(int wave, int b, int bought) {
            if (isWave(wave) && isBuy(b)) {
                buys[wave * BUYS + b] = bought;
            }
        }

        /** Takes the buys of another line's first waves, and none behind these. */
        void become(Line other, int waves) {
            for (int i = 0; i < buys.length && i < other.buys.length; i++) {
                buys[i] = i < waves * BUYS ? other.buys[i] : NONE;
            }
        }
    }

    /** The creeps of one wave on the path. A creep without health is gone: dead or through. */
    private static final class Horde {
        private final Game game;
        private final int[] health = new int[CREEPS];
        private final int[] armour = new int[CREEPS];
        private final int[] prize = new int[CREEPS];
        private final int[] pace = new int[CREEPS];
        private final int[] cell = new int[CREEPS];
        private final int[] comesAt = new int[CREEPS];
        private final int[] stepsAt = new int[CREEPS];
        private int length;
        private int size;
        private int come;
        int left;

        Horde(Game game) {
            this.game = game;
        }

        void lineUp(int wave) {
            length = game.rules.get(0, LENGTH);
            size = Math.min(CREEPS, game.waves.size(wave));
            come = 0;
            left = size;
            int tick = 0;
            for (int i = 0; i < size && i < CREEPS; i++) {
                int kind = game.waves.kind(wave, i);
                tick += game.waves.gap(wave, i);
                health[i] = game.creeps.get(kind, HEALTH);
                armour[i] = game.creeps.get(kind, ARMOUR);
                prize[i] = game.creeps.get(kind, PRIZE);
                pace[i] = game.creeps.get(kind, PACE);
                cell[i] = 0;
                comesAt[i] = tick;
                stepsAt[i] = tick + pace[i];
            }
        }

        void admit(int tick) {
            while (come < size && come < CREEPS && comesAt[come] <= tick) {
                come++;
            }
        }

        int farthestWithin(int reach, int spot) {
            int found = NONE;
            int far = NONE;
            for (int i = 0; i < come && i < CREEPS; i++) {
                if (health[i] > 0 && cell[i] > far && Math.abs(cell[i] - spot) <= reach) {
                    found = i;
                    far = cell[i];
                }
            }
            return found;
        }

        boolean diesOf(int power, int i) {
            if (i < 0 || i >= CREEPS) {
                return false;
            }
            health[i] = Math.max(0, health[i] - Math.max(1, power - armour[i]));
            if (health[i] > 0) {
                return false;
            }
            left--;
            return true;
        }

        int prizeOf(int i) {
            return i >= 0 && i < CREEPS ? prize[i] : 0;
        }

        /** How many are through by this step. */
        int advance(int tick) {
            int through = 0;
            for (int i = 0; i < come && i < CREEPS; i++) {
                if (health[i] <= 0 || stepsAt[i] > tick) {
                    continue;
                }
                cell[i]++;
                stepsAt[i] += pace[i];
                if (cell[i] >= length) {
                    health[i] = 0;
                    left--;
                    through++;
                }
            }
            return through;
        }
    }

    /** One wave against the towers, and what came of it. */
    private static final class Battle {
        private final Game game;
        private final Horde horde;
        private final int[] spot = new int[PLACES];
        private final int[] reach = new int[PLACES];
        private final int[] power = new int[PLACES];
        private final int[] rest = new int[PLACES];
        private final int[] readyAt = new int[PLACES];
        int ticks;
        int dead;
        int through;
        int hits;
        int earned;

        Battle(Game game) {
            this.game = game;
            this.horde = new Horde(game);
        }

        void fight(int wave, int towers, int lives) {
            ticks = 0;
            dead = 0;
            through = 0;
            hits = 0;
            earned = 0;
            arm(towers);
            horde.lineUp(wave);
            for (int tick = 0; tick < MOST_TICKS && horde.left > 0 && through < lives; tick++) {
                horde.admit(tick);
                shoot(tick);
                through += horde.advance(tick);
                ticks = tick + 1;
            }
        }

        /** A place without a tower is one that reaches nothing. */
        private void arm(int towers) {
            for (int place = 0; place < PLACES; place++) {
                int kind = kindAt(towers, place);
                reach[place] = NONE;
                readyAt[place] = 0;
                if (kind != NONE) {
                    spot[place] = game.spots.get(place, SPOT);
                    reach[place] = game.towers.get(kind, RANGE) - game.spots.get(place, DEPTH);
                    power[place] = game.towers.get(kind, POWER);
                    rest[place] = game.towers.get(kind, REST);
                }
            }
        }

        private void shoot(int tick) {
            for (int place = 0; place < PLACES; place++) {
                if (reach[place] < 0 || readyAt[place] > tick) {
                    continue;
                }
                int target = horde.farthestWithin(reach[place], spot[place]);
                if (target == NONE) {
                    continue;
                }
                hits++;
                readyAt[place] = tick + rest[place];
                if (horde.diesOf(power[place], target)) {
                    dead++;
                    earned += horde.prizeOf(target);
                }
            }
        }
    }

    /** What is held wave by wave: at 0 as at the beginning, at w + 1 in wave w and behind it. */
    private static final class Camps {
        private final Game game;
        final int[] lives = new int[WAVES + 1];
        final int[] coins = new int[WAVES + 1];
        final int[] towers = new int[WAVES + 1];
        final int[] kindsBought = new int[WAVES + 1];

        Camps(Game game) {
            this.game = game;
        }

        void begin() {
            lives[0] = game.rules.get(0, LIVES);
            coins[0] = game.rules.get(0, COINS);
            towers[0] = 0;
            kindsBought[0] = 0;
        }

        void enter(int wave, int first, int second) {
            if (!isWave(wave)) {
                return;
            }
            lives[wave + 1] = lives[wave];
            coins[wave + 1] = coins[wave];
            towers[wave + 1] = towers[wave];
            kindsBought[wave + 1] = kindsBought[wave];
            acquire(wave + 1, first);
            acquire(wave + 1, second);
        }

        private void acquire(int at, int bought) {
            int place = bought & 3;
            int kind = bought >> 2;
            if (!isKind(kind) || place >= game.rules.get(0, PLACE_COUNT) || at < 0 || at > WAVES) {
                return;
            }
            int cost = game.towers.get(kind, COST);
            if (coins[at] < cost) {
                return;
            }
            int replaced = kindAt(towers[at], place);
            int back = replaced == NONE ? 0 : game.towers.get(replaced, COST) / 2;
            coins[at] += back - cost;
            towers[at] &= ~(TOWER_MASK << (TOWER_BITS * place));
            towers[at] |= (kind + 1) << (TOWER_BITS * place);
            kindsBought[at] |= 1 << kind;
        }

        /** Whether the wave leaves lives. */
        boolean leave(int wave, int through, int earned) {
            if (!isWave(wave)) {
                return false;
            }
            lives[wave + 1] = Math.max(0, lives[wave + 1] - through);
            coins[wave + 1] += earned;
            return lives[wave + 1] > 0;
        }
    }

    /** A line played to its end. */
    private static final class Play {
        private final Game game;
        private final Battle battle;
        final Camps camps;
        final int[] waveTicks = new int[WAVES];
        int begun;
        int passed;
        int ticks;
        int dead;
        int through;
        int hits;

        Play(Game game, Battle battle) {
            this.game = game;
            this.battle = battle;
            this.camps = new Camps(game);
        }

        void run(Line line) {
            begun = 0;
            passed = 0;
            ticks = 0;
            dead = 0;
            through = 0;
            hits = 0;
            camps.begin();
            int waves = game.rules.get(0, WAVE_COUNT);
            for (int wave = 0; wave < waves && wave < WAVES && passed == wave; wave++) {
                camps.enter(wave, line.at(wave, 0), line.at(wave, 1));
                battle.fight(wave, camps.towers[wave + 1], camps.lives[wave + 1]);
                begun = wave + 1;
                waveTicks[wave] = battle.ticks;
                ticks += battle.ticks;
                dead += battle.dead;
                through += battle.through;
                hits += battle.hits;
                if (camps.leave(wave, battle.through, battle.earned)) {
                    passed = wave + 1;
                }
            }
        }

        int livesLeft() {
            return begun >= 0 && begun <= WAVES ? camps.lives[begun] : 0;
        }

        int coinsLeft() {
            return begun >= 0 && begun <= WAVES ? camps.coins[begun] : 0;
        }
    }

    /** All lines in their order, up to the bound. */
    private static final class Search {
        private final Game game;
        private final Battle battle;
        private final Camps camps;
        private final Line trail = new Line();
        private final int[] outcomes = new int[WAVES * TOWER_SETS];
        private boolean isCurrent = false;
        private boolean untilWon;
        private int waves;
        private int options;
        private int bound;
        final Line top = new Line();
        final int[] uses = new int[KINDS];
        int passed;
        int lives;
        int coins;
        int looks;
        int winners;
        boolean spent;

        Search(Game game, Battle battle) {
            this.game = game;
            this.battle = battle;
            this.camps = new Camps(game);
        }

        /** The game is another one now. */
        void forget() {
            isCurrent = false;
        }

        /** Whole or to the bound; what was found is kept till it is forgotten. */
        void seekAll() {
            if (!isCurrent) {
                begin(false);
                seekWave(0);
            }
        }

        /** Seeks only as far as it takes to know, so that nothing else of it may be told. */
        boolean findsWinner() {
            begin(true);
            seekWave(0);
            return winners > 0;
        }

        private void begin(boolean toFirstWinner) {
            untilWon = toFirstWinner;
            isCurrent = !toFirstWinner;
            waves = game.rules.get(0, WAVE_COUNT);
            options = Math.min(BUYS_IN_ORDER.length, KINDS * game.rules.get(0, PLACE_COUNT));
            bound = game.rules.get(0, BOUND);
            for (int i = 0; i < outcomes.length && i < waves * TOWER_SETS; i++) {
                outcomes[i] = NONE;
            }
            for (int kind = 0; kind < KINDS; kind++) {
                uses[kind] = 0;
            }
            camps.begin();
            top.become(trail, 0);
            passed = 0;
            lives = camps.lives[0];
            coins = camps.coins[0];
            looks = 0;
            winners = 0;
            spent = false;
        }

        private boolean isOver() {
            return spent || (untilWon && winners > 0);
        }

        /** Goes no deeper than there are waves, four at most. */
        private void seekWave(int wave) {
            if (wave < 0 || wave >= waves || wave >= WAVES) {
                return;
            }
            look(wave, NONE, NONE);
            for (int i = 0; i < options && !isOver(); i++) {
                look(wave, BUYS_IN_ORDER[i], NONE);
            }
            for (int i = 0; i < options && !isOver(); i++) {
                for (int j = 0; j < options && !isOver(); j++) {
                    look(wave, BUYS_IN_ORDER[i], BUYS_IN_ORDER[j]);
                }
            }
        }

        private void look(int wave, int first, int second) {
            if (looks >= bound) {
                spent = true;
                return;
            }
            looks++;
            trail.put(wave, 0, first);
            trail.put(wave, 1, second);
            camps.enter(wave, first, second);
            int at = wave * TOWER_SETS + camps.towers[wave + 1];
            if (at < 0 || at >= outcomes.length) {
                return;
            }
            // Many ways end with the same towers. Lives only decide where a wave is cut short, and such a wave is not
            // passed anyway: so one fight with ample lives serves all these ways.
            if (outcomes[at] == NONE) {
                battle.fight(wave, camps.towers[wave + 1], AMPLE_LIVES);
                outcomes[at] = battle.through << EARNED_BITS | battle.earned;
            }
            if (camps.leave(wave, outcomes[at] >> EARNED_BITS, outcomes[at] & EARNED_MASK)) {
                goOnBehind(wave);
            }
        }

        private void goOnBehind(int wave) {
            keepIfBetter(wave + 1);
            if (wave + 1 == waves) {
                countWinner(camps.kindsBought[wave + 1]);
            } else {
                seekWave(wave + 1);
            }
        }

        private void keepIfBetter(int behind) {
            if (behind < passed || behind > WAVES) {
                return;
            }
            boolean moreLives = camps.lives[behind] > lives;
            boolean moreCoins = camps.lives[behind] == lives && camps.coins[behind] > coins;
            if (behind > passed || moreLives || moreCoins) {
                passed = behind;
                lives = camps.lives[behind];
                coins = camps.coins[behind];
                top.become(trail, behind);
            }
        }

        private void countWinner(int kindsBought) {
            winners++;
            for (int kind = 0; kind < KINDS; kind++) {
                uses[kind] += kindsBought >> kind & 1;
            }
        }
    }
}
