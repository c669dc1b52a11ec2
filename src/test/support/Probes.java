import java.util.ArrayList;
import java.util.List;

/**
 * All that can be seen of an object, in several parts, each of them on an object of its own: what is undone, kept, told
 * and put by can be looked at only by changing it.
 */
final class Probes {
    static final int PARTS = 6;

    private final Played x;
    private final List<Integer> found = new ArrayList<>();

    private Probes(Played x) {
        this.x = x;
    }

    static List<Integer> look(Played x, int part) {
        Probes probes = new Probes(x);
        switch (part) {
            case 0 -> probes.all();
            case 1 -> probes.undone();
            case 2 -> probes.kept();
            case 3 -> probes.written();
            case 4 -> probes.told();
            default -> probes.cupsAndSights();
        }
        return probes.found;
    }

    private int see(String name, int... arguments) {
        int answer = x.call(name, arguments);
        found.add(answer);
        return answer;
    }

    private void all() {
        for (int what = 0; what <= 10; what++) {
            see("count", what);
        }
        see("fault");
        see("kinds");
        lane();
    }

    private void lane() {
        int kitchens = see("count", 0);
        int people = see("count", 1);
        see("count", 2);
        see("count", 9);
        for (int k = 0; k < kitchens; k++) {
            for (int what = 0; what <= 3; what++) {
                see("kitchen", k, what);
            }
        }
        for (int p = 0; p < people; p++) {
            for (int what = 0; what <= 4; what++) {
                see("person", p, what);
            }
        }
    }

    private void undone() {
        int kitchens = x.call("count", 0);
        int people = x.call("count", 1);
        while (see("undo") >= 0) {
            see("count", 2);
            see("count", 3);
            for (int k = 0; k < kitchens; k++) {
                see("kitchen", k, 2);
            }
            for (int p = 0; p < people; p++) {
                see("person", p, 2);
                see("person", p, 3);
            }
        }
    }

    private void kept() {
        for (int k = 0; k < 2; k++) {
            if (see("back", k) >= 0) {
                lane();
            }
        }
    }

    private void written() {
        see("fault");
        see("lane");
        see("erase");
        lane();
    }

    /** A text that adds little brings back all that was told. */
    private void told() {
        x.call("erase");
        for (String text : new String[] {"open 0", "worn 0 0", "fell 0 1"}) {
            if (x.tell(text) > 0) {
                break;
            }
            x.call("erase");
        }
        lane();
    }

    private void cupsAndSights() {
        for (int cup = 0; cup < 3; cup++) {
            int held = see("turn", cup, 0);
            while (see("put", cup, 1, 0, 7) >= 0) {
                held++;
            }
            for (int i = 0; i < held; i++) {
                takeAny(cup);
            }
        }
        see("ask");
        while (see("seen", 0, 0, 2) >= 0) {
            see("kinds");
        }
    }

    private void takeAny(int cup) {
        for (int what = 0; what <= 2; what++) {
            if (see("take", cup, 0, what) >= 0) {
                return;
            }
        }
    }
}
