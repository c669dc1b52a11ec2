import java.util.ArrayList;
import java.util.Collections;
import java.util.List;

/** Promises 9 to 15: evenings, doors, griefs, peace; undone, kept, gone back to. */
final class DeedBounds {
    private static final String BUSY = "tell open 1;open 2;shut 4;wife 0 6;man 1 12;girl 2 3;fell 0 1;fell 2 1";

    private final Runs runs;

    DeedBounds(Runs runs) {
        this.runs = runs;
    }

    void all() {
        evenings();
        lastEvening();
        doors();
        griefs();
        peace();
        undone();
        undoneAtMost();
        notUndone();
        kept();
        back();
        keptAsItWas();
        manyCalls();
    }

    private static List<String> with(List<String> first, String... more) {
        List<String> lines = new ArrayList<>(first);
        Collections.addAll(lines, more);
        return lines;
    }

    private static List<String> repeated(String line, int n) {
        return Collections.nCopies(n, line);
    }

    private void evenings() {
        for (int n = 1; n <= 12; n++) {
            runs.play("9: evenings (n 1 .. 12, together they are undone)", List.of(BUSY, "evening(" + n + ") = " + n,
                    "count(2) = " + n, "count(9) = 1", "undo() = 0", "count(2) = 0", "count(5) = 21", "count(6) = 0"));
            List<String> one = new ArrayList<>(List.of(BUSY));
            one.addAll(repeated("evening(1)", n));
            runs.play("9: so many evenings, one by one or together", with(one, "keep(0) = " + n));
        }
        runs.run("9: OUTSIDE: n 1 .. 12", BUSY + """

            evening(0) = OUTSIDE
            evening(-1) = OUTSIDE
            evening(13) = OUTSIDE
            evening(LEAST) = OUTSIDE
            evening(MOST) = OUTSIDE
            count(2) = 0
            count(9) = 0
            """);
        // both are in the field, fallen out with who is next door: wife 6 5 7 6 .., man 12 11 13 12 ..
        runs.run("9: twelve evenings", """
            tell open 1;open 2;shut 4;wife 0 6;man 1 12;fell 0 1
            behind(0, 11) = 7
            behind(1, 11) = 13
            evening(12) = 12
            person(0, 2) = 6
            person(1, 2) = 12
            """);
    }

    private void lastEvening() {
        List<String> late = new ArrayList<>(List.of("tell shut 0;shut 1;wife 0 0;hard 1 40"));
        late.addAll(repeated("evening(12)", 83));
        runs.play("9: FULL: it would be above 999", with(late, "count(2) = 996", "evening(4) = FULL",
                "evening(12) = FULL", "count(9) = 8", "evening(3) = 999", "evening(1) = FULL", "evening(12) = FULL",
                "count(2) = 999"));
        runs.play("9: up to 999 one by one", with(late, "evening(1) = 997", "evening(3) = FULL", "evening(2) = 999",
                "undo() = 7", "evening(1) = 998", "evening(2) = FULL", "evening(1) = 999", "evening(1) = FULL",
                "undo() = 7", "count(2) = 998", "evening(2) = FULL", "evening(1) = 999"));
        runs.play("9: of OUTSIDE and FULL the first", with(late, "evening(13) = OUTSIDE", "evening(MOST) = OUTSIDE",
                "evening(3) = 999", "evening(0) = OUTSIDE", "evening(13) = OUTSIDE", "evening(-1) = OUTSIDE"));
        runs.play("9: what is foretold may be behind evening 999", with(late, "evening(3) = 999",
                "where(0, 60) = 7", "behind(0, 60) = 6", "luck(0, 60) = 0", "field(0) = 0", "doors(20) = NONE",
                "hearth(20, 0) = 1", "keep(0) = 999", "door(0) = 1", "back(0) = 999", "evening(1) = FULL"));
    }

    private void doors() {
        List<String> lines = new ArrayList<>(List.of("tell open 0;shut 0;open 0;shut 0;open 0;shut 0;open 0"));
        int bits = 0b1010101;
        for (int k = 0; k < 7; k++) {
            int now = k % 2;
            bits ^= 1 << k;
            lines.addAll(List.of("door(" + k + ") = " + now, "kitchen(" + k + ", 0) = " + now, "count(3) = " + bits));
        }
        for (int k = 6; k >= 0; k--) {
            lines.add("door(" + k + ") = " + (1 - k % 2));
        }
        lines.addAll(List.of("count(3) = 85", "count(9) = 8"));
        runs.play("10: a door: 1 it is open then, 0", lines);
        runs.run("10: UNKNOWN", """
            door(0) = UNKNOWN
            tell open 1;open 1
            door(2) = UNKNOWN
            door(-1) = UNKNOWN
            door(7) = UNKNOWN
            door(32) = UNKNOWN
            door(LEAST) = UNKNOWN
            door(MOST) = UNKNOWN
            count(3) = 3
            count(9) = 0
            door(1) = 0
            """);
    }

    private void griefs() {
        for (int grief : new int[] {0, 1, 38, 39}) {
            for (int n : new int[] {1, 2, 3, 39, 40}) {
                int due = Math.min(40, grief + n);
                runs.play("11: grieved by n (1 .. 40; 40 at most)", List.of("tell open 1;wife 0 " + grief,
                        "grieve(0, " + n + ") = " + due, "person(0, 2) = " + due, "count(9) = 1", "undo() = 0",
                        "person(0, 2) = " + grief));
            }
        }
        runs.run("11: OUTSIDE: n 1 .. 40", """
            tell open 1;wife 0 7;man 0 40
            grieve(0, 0) = OUTSIDE
            grieve(0, -1) = OUTSIDE
            grieve(0, 41) = OUTSIDE
            grieve(0, LEAST) = OUTSIDE
            grieve(0, MOST) = OUTSIDE
            person(0, 2) = 7
            """);
        runs.run("11: NOT: it is 40", """
            tell open 1;wife 0 39;man 0 40
            grieve(1, 1) = NOT
            grieve(1, 40) = NOT
            grieve(0, 1) = 40
            grieve(0, 1) = NOT
            count(9) = 1
            undo() = 0
            grieve(0, 40) = 40
            """);
        runs.run("11: of several refusals the first", """
            grieve(0, 0) = UNKNOWN
            tell open 1;wife 0 39;man 0 40
            grieve(2, 41) = UNKNOWN
            grieve(-1, 0) = UNKNOWN
            grieve(1, 41) = OUTSIDE
            grieve(1, 0) = OUTSIDE
            """);
        runs.run("11: another one's grief stays", """
            tell open 1;wife 0 5;man 0 6;girl 0 2
            grieve(1, 10) = 16
            person(0, 2) = 5
            person(2, 2) = 2
            count(5) = 23
            """);
    }

    private void peace() {
        runs.run("12: with how many others the one has fallen out yet", """
            tell open 1;wife 0 0;wife 0 0;wife 0 0;wife 0 0;wife 0 0;wife 0 0
            tell fell 0 1;fell 0 2;fell 0 3;fell 0 4;fell 0 5;fell 4 5
            peace(0, 3) = 4
            person(0, 3) = 54
            person(3, 3) = 0
            peace(5, 0) = 1
            person(5, 3) = 16
            peace(0, 1) = 2
            peace(2, 0) = 0
            peace(0, 4) = 0
            person(0, 3) = 0
            person(4, 3) = 32
            person(5, 3) = 16
            peace(4, 5) = 0
            count(9) = 6
            """);
        runs.run("12: NOT: these two have not", """
            tell open 1;wife 0 0;wife 0 0;wife 0 0;fell 0 1
            peace(0, 2) = NOT
            peace(2, 0) = NOT
            peace(1, 2) = NOT
            peace(1, 0) = 0
            peace(0, 1) = NOT
            peace(1, 0) = NOT
            undo() = 0
            peace(0, 1) = 0
            """);
        runs.run("12: UNKNOWN, also two that are the same, ahead of NOT", """
            peace(0, 1) = UNKNOWN
            tell open 1;wife 0 0;wife 0 0;fell 0 1
            peace(0, 0) = UNKNOWN
            peace(1, 1) = UNKNOWN
            peace(2, 0) = UNKNOWN
            peace(0, 2) = UNKNOWN
            peace(2, 2) = UNKNOWN
            peace(-1, 0) = UNKNOWN
            peace(0, -1) = UNKNOWN
            peace(0, 33) = UNKNOWN
            peace(LEAST, 1) = UNKNOWN
            peace(0, MOST) = UNKNOWN
            """);
    }

    private void undone() {
        runs.run("13: NOT: none", """
            undo() = NOT
            tell open 1;open 1;wife 0 6;man 1 12;fell 0 1
            undo() = NOT
            door(0) = 0
            undo() = 0
            undo() = NOT
            """);
        runs.run("13: the latest is undone", """
            tell open 1;open 1;wife 0 6;man 1 12;fell 0 1
            door(0) = 0
            grieve(0, 5) = 11
            peace(0, 1) = 0
            evening(2) = 2
            count(6) = 2
            undo() = 3
            count(2) = 0
            count(6) = 0
            person(0, 2) = 11
            person(1, 2) = 12
            person(0, 3) = 0
            count(3) = 2
            undo() = 2
            person(0, 3) = 2
            person(1, 3) = 1
            person(0, 2) = 11
            undo() = 1
            person(0, 2) = 6
            count(3) = 2
            undo() = 0
            count(3) = 3
            """);
    }

    private void undoneAtMost() {
        List<String> deeds = List.of("door(0) = 0", "grieve(0, 1) = 1", "evening(1) = 1", "door(1) = 1",
                "peace(0, 1) = 0", "grieve(1, 2) = 6", "door(0) = 1", "evening(3) = 4",
                "grieve(0, 9) = 11", "door(2) = 0");
        String text = "tell open 1;shut 1;open 0;wife 0 0;man 1 2;fell 0 1";
        for (int n = 1; n <= deeds.size(); n++) {
            List<String> lines = new ArrayList<>(List.of(text));
            for (int i = 0; i < n; i++) {
                lines.add(deeds.get(i));
                lines.add("count(9) = " + Math.min(8, i + 1));
            }
            for (int left = Math.min(8, n) - 1; left >= 0; left--) {
                lines.add("undo() = " + left);
            }
            lines.add("undo() = NOT");
            // of 9 the first can't be undone, of 10 the first two
            lines.add("count(3) = " + (n <= 8 ? 5 : 4));
            lines.add("person(0, 2) = " + (n <= 9 ? 0 : 1));
            lines.add("count(2) = 0");
            lines.add("person(0, 3) = 2");
            runs.play("13: the last 8 can be undone", lines);
        }
        List<String> round = new ArrayList<>(List.of(text));
        for (int i = 1; i <= 30; i++) {
            round.add("grieve(0, 1) = " + i);
        }
        round.addAll(List.of("undo() = 7", "undo() = 6", "undo() = 5", "person(0, 2) = 27", "door(0) = 0",
                "count(9) = 6", "grieve(0, 2) = 29", "grieve(0, 3) = 32", "grieve(0, 4) = 36", "count(9) = 8",
                "undo() = 7", "person(0, 2) = 32", "undo() = 6", "undo() = 5", "undo() = 4", "count(3) = 5",
                "undo() = 3", "person(0, 2) = 26", "undo() = 2", "undo() = 1", "undo() = 0", "person(0, 2) = 23",
                "undo() = NOT"));
        runs.play("13: the last 8 can be undone, round and round", round);
    }

    private void notUndone() {
        runs.run("13: what is refused is nothing to undo", BUSY + """

            door(3) = UNKNOWN
            grieve(0, 0) = OUTSIDE
            grieve(3, 1) = UNKNOWN
            peace(0, 0) = UNKNOWN
            peace(0, 2) = NOT
            evening(0) = OUTSIDE
            count(9) = 0
            undo() = NOT
            """);
        runs.run("13: nothing else is undone, nor is it a deed", BUSY + """

            grieve(0, 3) = 9
            seen(1, 0, 3) = 1
            cup(1, 3) = 3
            put(1, 0, 1, 2) = 1
            keep(0) = 0
            write open
            count(9) = 1
            undo() = 0
            count(7) = 1
            count(8) = 1
            count(10) = 4
            person(0, 2) = 6
            back(0) = 0
            person(0, 2) = 9
            """);
    }

    private void kept() {
        runs.run("14: k 0, 1: the evening; UNKNOWN: no such k", BUSY + """

            keep(-1) = UNKNOWN
            keep(2) = UNKNOWN
            keep(LEAST) = UNKNOWN
            keep(MOST) = UNKNOWN
            back(0) = NOT
            back(1) = NOT
            evening(7) = 7
            keep(0) = 7
            back(1) = NOT
            evening(5) = 12
            keep(1) = 12
            count(9) = 2
            count(2) = 12
            """);
        runs.run("14: kept anew", BUSY + """

            keep(0) = 0
            door(0) = 0
            keep(0) = 0
            door(0) = 1
            back(0) = 0
            count(3) = 2
            """);
        runs.run("14: kept apart", BUSY + """

            keep(0) = 0
            door(0) = 0
            evening(1) = 1
            keep(1) = 1
            back(0) = 0
            count(3) = 3
            back(1) = 1
            count(3) = 2
            back(0) = 0
            count(3) = 3
            """);
    }

    private void back() {
        runs.run("15: UNKNOWN; of UNKNOWN and NOT the first", BUSY + """

            back(-1) = UNKNOWN
            back(2) = UNKNOWN
            keep(0) = 0
            keep(1) = 0
            back(2) = UNKNOWN
            back(-1) = UNKNOWN
            back(LEAST) = UNKNOWN
            back(MOST) = UNKNOWN
            """);
        runs.run("15: NOT: nothing was kept since the last text", BUSY + """

            back(0) = NOT
            keep(1) = 0
            back(0) = NOT
            back(1) = 0
            tell open 1
            back(0) = NOT
            back(1) = NOT
            keep(0) = 0
            back(0) = 0
            back(1) = NOT
            write open 5
            lane() = NOT
            back(0) = 0
            """);
        runs.run("15: kept ahead of any text", """
            keep(0) = 0
            evening(2) = 2
            keep(1) = 2
            back(0) = 0
            back(1) = 2
            tell lane
            back(0) = NOT
            """);
        runs.run("15: nothing can be undone", BUSY + """

            door(0) = 0
            keep(0) = 0
            door(1) = 0
            count(9) = 2
            back(0) = 0
            count(9) = 0
            undo() = NOT
            count(3) = 2
            door(0) = 1
            undo() = 0
            count(3) = 2
            undo() = NOT
            """);
    }

    private void keptAsItWas() {
        runs.run("15: it is as it was kept: doors, room, luck, grief, quarrels, the evening", BUSY + """

            evening(1) = 1
            keep(1) = 1
            door(0) = 0
            door(2) = 1
            peace(0, 1) = 0
            peace(1, 2) = 0
            grieve(0, 40) = 40
            grieve(1, 40) = 40
            evening(12) = 13
            back(1) = 1
            count(2) = 1
            count(3) = 3
            count(6) = 1
            person(0, 2) = 5
            person(1, 2) = 11
            person(2, 2) = 0
            person(0, 3) = 2
            person(1, 3) = 5
            person(2, 3) = 2
            evening(1) = 2
            back(1) = 1
            count(2) = 1
            """);
        runs.run("15: nothing else is as it was", BUSY + """

            keep(0) = 0
            seen(1, 0, 3) = 1
            cup(1, 3) = 3
            put(1, 0, 0, 2) = 1
            write open
            back(0) = 0
            count(7) = 1
            count(8) = 1
            count(10) = 4
            """);
    }

    private void manyCalls() {
        List<String> lines = new ArrayList<>(List.of("tell open 1;open 1;wife 0 0"));
        for (int i = 0; i < 470; i++) {
            lines.add("door(" + i % 2 + ") = " + (i / 2 % 2));
        }
        for (int left = 7; left >= 0; left--) {
            lines.add("undo() = " + left);
        }
        // behind 462 of the doors each of the two was turned an odd number of times
        lines.add("keep(0) = 0");
        lines.add("door(1) = 1");
        lines.add("door(0) = 1");
        runs.play("What it is: an object is used for at most 512 calls", lines);
    }
}
