import java.util.ArrayList;
import java.util.List;

/** Promises 24 to 27: what was seen, which kinds fit, what to ask. */
final class SeenBounds {
    private static final int[] BEARS = {6, 12, 3, 20, 10};
    private static final int[] EASES = {5, 5, 5, 20, 5};
    private static final int[] GROWS = {2, 2, 3, 1, 1};

    private final Runs runs;

    SeenBounds(Runs runs) {
        this.runs = runs;
    }

    void all() {
        seen();
        seenAtMost();
        forgotten();
        kindsAtEachGrief();
        kindsOfSeveral();
        asked();
    }

    private void seen() {
        runs.run("24: g and h 0 .. 40, came 0, 1; OUTSIDE", """
            seen(-1, 0, 0) = OUTSIDE
            seen(41, 0, 0) = OUTSIDE
            seen(0, 0, -1) = OUTSIDE
            seen(0, 0, 41) = OUTSIDE
            seen(0, -1, 0) = OUTSIDE
            seen(0, 2, 0) = OUTSIDE
            seen(LEAST, 0, 0) = OUTSIDE
            seen(MOST, 1, 0) = OUTSIDE
            seen(0, LEAST, 0) = OUTSIDE
            seen(0, MOST, 0) = OUTSIDE
            seen(0, 0, LEAST) = OUTSIDE
            seen(0, 1, MOST) = OUTSIDE
            count(7) = 0
            seen(0, 0, 0) = 1
            seen(40, 1, 40) = 2
            seen(40, 0, 0) = 3
            seen(0, 1, 40) = 4
            count(7) = 4
            """);
    }

    private void seenAtMost() {
        runs.run("Terms: seen, 6 at most; FULL; of OUTSIDE and FULL the first", """
            seen(0, 0, 2) = 1
            seen(0, 0, 2) = 2
            seen(0, 0, 2) = 3
            seen(0, 0, 2) = 4
            seen(0, 0, 2) = 5
            kinds() = 3
            seen(1, 0, 3) = 6
            kinds() = 3
            seen(0, 0, 2) = FULL
            seen(5, 0, 6) = FULL
            seen(40, 1, 40) = FULL
            seen(41, 0, 0) = OUTSIDE
            seen(0, 2, 0) = OUTSIDE
            seen(0, 0, -1) = OUTSIDE
            kinds() = 3
            count(7) = 6
            forget() = 6
            seen(0, 0, 1) = 1
            kinds() = 24
            """);
        runs.run("26: the sixth that is seen counts", """
            seen(0, 0, 2) = 1
            seen(0, 0, 2) = 2
            seen(0, 0, 2) = 3
            seen(0, 0, 2) = 4
            seen(0, 0, 2) = 5
            seen(6, 1, 1) = 6
            kinds() = 1
            """);
    }

    private void forgotten() {
        runs.run("25: seen is nothing: how many there were", """
            forget() = 0
            seen(0, 0, 2) = 1
            forget() = 1
            forget() = 0
            count(7) = 0
            kinds() = 31
            ask() = 0
            """);
        runs.run("25: nothing else is forgotten, nor is it a deed", """
            tell open 1;wife 0 3
            grieve(0, 1) = 4
            cup(0, 1) = 1
            put(0, 0, 2, 1) = 1
            keep(0) = 0
            write open
            seen(0, 0, 2) = 1
            forget() = 1
            count(5) = 4
            count(8) = 1
            count(9) = 1
            count(10) = 4
            undo() = 0
            back(0) = 0
            """);
        runs.run("24: what is seen is no matter to those who are there", """
            tell open 1;wife 0 3
            seen(3, 1, 0) = 1
            person(0, 2) = 3
            count(9) = 0
            kinds() = 4
            """);
    }

    private void kindsAtEachGrief() {
        for (int g = 0; g <= 40; g++) {
            List<String> lines = new ArrayList<>();
            for (int kind = 0; kind < 5; kind++) {
                boolean came = g >= BEARS[kind];
                int h = came ? Math.max(0, g - EASES[kind]) : g + GROWS[kind];
                lines.add("seen(" + g + ", " + (came ? 1 : 0) + ", " + h + ") = 1");
                lines.add("kinds() = " + fitting(g, came, h));
                lines.add("forget() = 1");
                // it did the other thing, or grief was one off
                lines.add("seen(" + g + ", " + (came ? 0 : 1) + ", " + h + ") = 1");
                lines.add("kinds() = " + fitting(g, !came, h));
                lines.add("forget() = 1");
                lines.add("seen(" + g + ", " + (came ? 1 : 0) + ", " + (h + 1) + ") = 1");
                lines.add("kinds() = " + fitting(g, came, h + 1));
                lines.add("forget() = 1");
            }
            runs.play("26: kinds (0 .. 4, by bits) by which all that is seen would be so", lines);
        }
    }

    private static int fitting(int g, boolean came, int h) {
        int bits = 0;
        for (int kind = 0; kind < 5; kind++) {
            boolean comes = g >= BEARS[kind];
            int behind = comes ? Math.max(0, g - EASES[kind]) : g + GROWS[kind];
            bits |= comes == came && behind == h ? 1 << kind : 0;
        }
        return bits;
    }

    private void kindsOfSeveral() {
        runs.run("26: all that is seen", """
            kinds() = 31
            seen(12, 1, 7) = 1
            kinds() = 23
            seen(5, 0, 7) = 2
            kinds() = 3
            seen(6, 0, 8) = 3
            kinds() = 2
            ask() = NONE
            seen(6, 1, 1) = 4
            kinds() = 0
            ask() = NONE
            """);
        runs.run("Terms: grief 0 at least, in a kitchen", """
            seen(3, 1, 0) = 1
            kinds() = 4
            seen(5, 1, 0) = 2
            kinds() = 4
            forget() = 2
            seen(20, 1, 0) = 1
            kinds() = 8
            forget() = 1
            seen(40, 1, 20) = 1
            kinds() = 8
            forget() = 1
            seen(40, 1, 35) = 1
            kinds() = 23
            """);
    }

    private void asked() {
        // at 0: wife and man 2, girl 3, hard and worn 1: of five the greatest part is two; nowhere is it one
        runs.run("27: the greatest part that is alike is least; of like ones the least", """
            ask() = 0
            seen(0, 0, 2) = 1
            ask() = 6
            forget() = 1
            seen(0, 0, 1) = 1
            kinds() = 24
            ask() = 10
            forget() = 1
            seen(12, 1, 7) = 1
            kinds() = 23
            ask() = 0
            forget() = 1
            seen(10, 1, 5) = 1
            kinds() = 21
            ask() = 0
            """);
        runs.run("27: none: one alone is not parted", """
            seen(6, 1, 1) = 1
            kinds() = 5
            ask() = 0
            seen(5, 0, 7) = 2
            kinds() = 1
            ask() = NONE
            forget() = 2
            seen(11, 0, 13) = 1
            kinds() = 2
            ask() = NONE
            forget() = 1
            seen(0, 0, 3) = 1
            kinds() = 4
            ask() = NONE
            forget() = 1
            seen(10, 0, 11) = 1
            kinds() = 8
            ask() = NONE
            forget() = 1
            seen(10, 1, 5) = 1
            seen(9, 0, 10) = 2
            kinds() = 16
            ask() = NONE
            """);
        runs.run("27: none: no kind is left", """
            seen(5, 1, 0) = 1
            kinds() = 4
            ask() = NONE
            seen(5, 0, 7) = 2
            kinds() = 0
            ask() = NONE
            """);
    }
}
