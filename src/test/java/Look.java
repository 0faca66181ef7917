import java.util.ArrayList;
import java.util.List;

/** All that can be seen of an object, in one row. The look changes the object, so that two of like history are compared. */
final class Look {
    private static final int[] RULES = {8, 2, 1, 20, 5, 300};

    private final TowersAndWaves x;
    private final List<Integer> seen = new ArrayList<>();

    private Look(TowersAndWaves x) {
        this.x = x;
    }

    static List<Integer> at(TowersAndWaves x) {
        Look look = new Look(x);
        look.theGame();
        look.allWavesAndPlaces();
        look.theGame();
        look.seen.add(x.idle());
        look.thePlay();
        look.theNumbers();
        for (int wave = 0; wave < 4; wave++) {
            look.seen.add(x.clear(wave));
        }
        return look.seen;
    }

    private void theGame() {
        thePlay();
        for (int what = 0; what <= 9; what++) {
            seen.add(x.best(what));
        }
        for (int wave = 0; wave < 4; wave++) {
            seen.add(x.bought(wave, 0));
            seen.add(x.bought(wave, 1));
        }
        seen.add(x.lost());
    }

    private void thePlay() {
        for (int what = 0; what <= 6; what++) {
            seen.add(x.play(what));
        }
        for (int wave = 0; wave < 4; wave++) {
            for (int what = 0; what <= 6; what++) {
                seen.add(x.during(wave, what));
            }
        }
    }

    /** With these no wave is left out, and no buy of the line for want of coins or of a place. */
    private void allWavesAndPlaces() {
        seen.add(x.rule(1, 4));
        seen.add(x.rule(2, 4));
        seen.add(x.rule(3, 100));
        seen.add(x.rule(4, 20));
    }

    private void theNumbers() {
        for (int what = 0; what < 6; what++) {
            seen.add(x.rule(what, RULES[what]));
        }
        for (int place = 0; place < 4; place++) {
            seen.add(x.spot(place, 0, 0));
            seen.add(x.spot(place, 1, 0));
        }
        for (int kind = 0; kind < 3; kind++) {
            for (int what = 0; what < 4; what++) {
                seen.add(x.tower(kind, what, 1));
                seen.add(x.creep(kind, what, 1));
            }
        }
    }
}
