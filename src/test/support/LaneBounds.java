import java.util.ArrayList;
import java.util.List;

/** Terms (KITCHENS, PEOPLE, AN EVENING, KINDS) and promises 1, 6, 7, 8, 35: who there is, and who goes where. */
final class LaneBounds {
    private static final String[] WORDS = {"wife", "man", "girl", "hard", "worn"};
    private static final int[] BEARS = {6, 12, 3, 20, 10};
    private static final int[] GOES = {6, 1, 6, 6, 6};
    private static final int[] EASES = {5, 5, 5, 20, 5};
    private static final int[] GROWS = {2, 2, 3, 1, 1};

    private final Runs runs;

    LaneBounds(Runs runs) {
        this.runs = runs;
    }

    void all() {
        newObject();
        kitchenNumbers();
        personNumbers();
        kitchenAsked();
        personAsked();
        personAs();
        counted();
        comesOn();
        eases();
        grows();
        rising();
        nearest();
        notTheirHome();
        goes();
        notOfOneFallenOut();
        room();
        field();
        nextEvening();
    }

    private void newObject() {
        List<String> lines = new ArrayList<>();
        for (int what = 0; what <= 10; what++) {
            lines.add("count(" + what + ") = 0");
        }
        lines.addAll(List.of("kitchen(0, 0) = UNKNOWN", "person(0, 0) = UNKNOWN", "door(0) = UNKNOWN",
                "luck(0, 0) = UNKNOWN", "where(0, 0) = UNKNOWN", "drop(0) = NULL", "drop(1) = NULL", "drop(2) = NULL",
                "take(0, 0, 0) = NULL", "undo() = NOT", "back(0) = NOT", "back(1) = NOT", "fault() = 0",
                "kinds() = 31", "forget() = 0", "erase() = 0"));
        runs.play("1: no kitchens, no cups", lines);
        runs.run("1: evenings come, though there is nobody", """
            evening(12) = 12
            count(2) = 12
            keep(0) = 12
            undo() = 0
            back(0) = 12
            """);
    }

    private void kitchenNumbers() {
        for (int kitchens = 0; kitchens <= 7; kitchens++) {
            List<String> lines = new ArrayList<>();
            if (kitchens > 0) {
                lines.add("tell " + ";shut 1".repeat(kitchens).substring(1));
            }
            lines.add("count(0) = " + kitchens);
            for (int k = 0; k < kitchens; k++) {
                lines.addAll(List.of("kitchen(" + k + ", 0) = 0", "luck(" + k + ", 0) = 0", "door(" + k + ") = 1"));
            }
            for (String k : new String[] {"" + kitchens, "7", "8", "-1", "31", "32", "LEAST", "MOST"}) {
                lines.addAll(List.of("kitchen(" + k + ", 0) = UNKNOWN", "luck(" + k + ", 0) = UNKNOWN",
                        "door(" + k + ") = UNKNOWN"));
            }
            lines.add("count(3) = " + ((1 << kitchens) - 1));
            runs.play("Terms: kitchens are 0, 1 .., 7 at most", lines);
        }
    }

    private void personNumbers() {
        for (int people = 0; people <= 6; people++) {
            List<String> lines = new ArrayList<>(List.of("tell open 4;open 4" + ";hard 0 9".repeat(people)));
            lines.addAll(List.of("count(1) = " + people, "cup(0, 9) = 9"));
            for (int p = 0; p < people; p++) {
                lines.addAll(List.of("person(" + p + ", 2) = 9", "as(" + p + ", 0) = 20",
                        "where(" + p + ", 0) = NONE", "behind(" + p + ", 0) = 9", "field(" + p + ") = " + fieldOf(p),
                        "grieve(" + p + ", 1) = 10", "undo() = 0", "put(0, 0, 1, " + p + ") = " + (p + 1)));
            }
            for (String p : new String[] {"" + people, "6", "7", "-1", "32", "LEAST", "MOST"}) {
                lines.addAll(List.of("person(" + p + ", 0) = UNKNOWN", "as(" + p + ", 0) = UNKNOWN",
                        "where(" + p + ", 0) = UNKNOWN", "behind(" + p + ", 0) = UNKNOWN",
                        "field(" + p + ") = UNKNOWN", "grieve(" + p + ", 1) = UNKNOWN",
                        "put(0, 0, 1, " + p + ") = UNKNOWN", "peace(0, " + p + ") = UNKNOWN",
                        "peace(" + p + ", 0) = UNKNOWN"));
            }
            runs.play("Terms: people are 0, 1 .., 6 at most", lines);
        }
    }

    /** Of six alike with room for four, it comes on in evening 11: the last two find no room. */
    private static String fieldOf(int person) {
        return person < 4 ? "NONE" : "11";
    }

    private void kitchenAsked() {
        runs.run("6: of a kitchen: open, room, luck, whose home it is", """
            tell open 3;shut 4;open 0;wife 1 6;man 0 12;girl 1 0;wife 1 6;wife 0 6
            kitchen(0, 0) = 1
            kitchen(1, 0) = 0
            kitchen(0, 1) = 3
            kitchen(1, 1) = 4
            kitchen(2, 1) = 0
            kitchen(0, 3) = 18
            kitchen(1, 3) = 13
            kitchen(2, 3) = 0
            kitchen(0, 2) = 0
            evening(1) = 1
            kitchen(0, 2) = 2
            kitchen(1, 2) = 0
            kitchen(0, 3) = 18
            door(0) = 0
            kitchen(0, 0) = 0
            """);
        runs.run("6: OUTSIDE: what is 0 .. 3", """
            tell open 3
            kitchen(0, -1) = OUTSIDE
            kitchen(0, 4) = OUTSIDE
            kitchen(0, LEAST) = OUTSIDE
            kitchen(0, MOST) = OUTSIDE
            """);
        runs.run("6: of UNKNOWN and OUTSIDE the first", """
            kitchen(0, 4) = UNKNOWN
            tell open 3
            kitchen(1, 4) = UNKNOWN
            kitchen(-1, -1) = UNKNOWN
            kitchen(7, MOST) = UNKNOWN
            """);
        runs.run("6: whose home it is, all six", """
            tell shut 0;shut 0;wife 1 0;man 1 0;girl 1 0;hard 1 0;worn 1 0;wife 1 0
            kitchen(0, 3) = 0
            kitchen(1, 3) = 63
            """);
    }

    private void personAsked() {
        runs.run("7: of a person: kind, home, grief, with whom fallen out, whether it would come on now", """
            tell open 3;shut 4;wife 1 5;man 0 12;girl 1 3;hard 0 19;worn 1 10;wife 0 6;fell 0 5;fell 0 1
            person(0, 0) = 0
            person(1, 0) = 1
            person(2, 0) = 2
            person(3, 0) = 3
            person(4, 0) = 4
            person(5, 0) = 0
            person(0, 1) = 1
            person(1, 1) = 0
            person(3, 2) = 19
            person(0, 3) = 34
            person(5, 3) = 1
            person(2, 3) = 0
            person(0, 4) = 0
            person(1, 4) = 1
            person(2, 4) = 1
            person(3, 4) = 0
            person(4, 4) = 1
            grieve(0, 1) = 6
            person(0, 4) = 1
            person(0, 2) = 6
            """);
        runs.run("7: OUTSIDE: what is 0 .. 4", """
            tell open 3;wife 0 0
            person(0, -1) = OUTSIDE
            person(0, 5) = OUTSIDE
            person(0, LEAST) = OUTSIDE
            person(0, MOST) = OUTSIDE
            """);
        runs.run("7: of UNKNOWN and OUTSIDE the first", """
            person(0, 5) = UNKNOWN
            tell open 3;wife 0 0
            person(1, 5) = UNKNOWN
            person(-1, -1) = UNKNOWN
            """);
        runs.run("7: fallen out with all others", """
            tell open 3;wife 0 0;wife 0 0;wife 0 0;wife 0 0;wife 0 0;wife 0 0
            tell fell 3 0;fell 1 3;fell 3 2;fell 4 3;fell 3 5
            person(3, 3) = 55
            person(5, 3) = 8
            """);
    }

    private void personAs() {
        int[] nots = {-4, -4, -4, -4, -4, -4};
        int[][] dues = {{6, 6, -4, -4, -4, -4}, {12, 12, 12, -4, -4, -4}, {3, 3, -4, 3, -4, -4},
            {20, -4, -4, -4, 20, -4}, {10, -4, -4, -4, 10, 10}};
        for (int kind = 0; kind < 5; kind++) {
            List<String> lines = new ArrayList<>(List.of("tell open 0;" + WORDS[kind] + " 0 7"));
            for (int as = 0; as < nots.length; as++) {
                lines.add("as(0, " + as + ") = " + (dues[kind][as] < 0 ? "NOT" : dues[kind][as]));
            }
            for (String as : new String[] {"-1", "6", "7", "32", "LEAST", "MOST"}) {
                lines.add("as(0, " + as + ") = OUTSIDE");
            }
            lines.addAll(List.of("as(1, 0) = UNKNOWN", "as(1, 6) = UNKNOWN", "as(-1, -1) = UNKNOWN"));
            runs.play("8: a person taken as a kind (0 .. 5); kinds are over one another", lines);
        }
    }

    private void counted() {
        runs.run("35: OUTSIDE: what is 0 .. 10", """
            count(-1) = OUTSIDE
            count(11) = OUTSIDE
            count(LEAST) = OUTSIDE
            count(MOST) = OUTSIDE
            count(10) = 0
            """);
        runs.run("35: each of them, most that can be", """
            tell open 4;open 4;open 4;open 4;open 4;open 4;open 4
            tell girl 0 40;girl 1 40;girl 2 40;girl 3 40;girl 4 40;girl 5 40
            count(0) = 7
            count(1) = 6
            count(2) = 0
            count(3) = 127
            count(4) = 63
            count(5) = 240
            count(6) = 0
            evening(1) = 1
            count(2) = 1
            count(5) = 210
            count(6) = 6
            count(9) = 1
            """);
        runs.run("35: what all cups hold, what is seen, letters", """
            cup(0, 9) = 9
            cup(1, 1) = 1
            cup(2, 2) = 2
            put(0, 0, 0, 1) = 1
            count(8) = 1
            put(1, 0, 0, 1) = 1
            put(2, 0, 0, 1) = 1
            put(2, 0, 0, 1) = 2
            count(8) = 4
            drop(2) = 2
            count(8) = 2
            cup(1, 3) = 3
            count(8) = 1
            take(0, 0, 0) = 50001
            count(8) = 0
            seen(0, 0, 0) = 1
            count(7) = 1
            write(32) = 1
            count(10) = 1
            """);
        runs.run("35: open ones and to whom it would come on, by bits", """
            tell shut 0;open 0;shut 0;open 0;wife 0 5;wife 0 6;man 0 11;man 0 12
            count(3) = 10
            count(4) = 10
            door(0) = 1
            door(1) = 0
            count(3) = 9
            grieve(0, 1) = 6
            count(4) = 11
            """);
    }

    private void comesOn() {
        for (int kind = 0; kind < 5; kind++) {
            String word = ";" + WORDS[kind] + " 0 ";
            int b = BEARS[kind];
            runs.play("An evening: it comes on to each whose grief is as much as by kind one bears, or more", List.of(
                    "tell open 4;open 4" + word + (b - 1) + word + b + word + (b + 1) + word + "40" + word + "0",
                    "count(4) = 14", "person(0, 4) = 0", "person(1, 4) = 1", "person(2, 4) = 1", "person(3, 4) = 1",
                    "person(4, 4) = 0", "where(0, 0) = NONE", "where(1, 0) = 1", "where(2, 0) = 1", "where(3, 0) = 1",
                    "where(4, 0) = NONE", "evening(1) = 1", "kitchen(1, 2) = 3", "kitchen(0, 2) = 0"));
        }
    }

    private void eases() {
        for (int kind = 0; kind < 5; kind++) {
            for (int grief = BEARS[kind]; grief <= 40; grief++) {
                int left = Math.max(0, grief - EASES[kind]);
                runs.play("An evening: grief is less by how by kind it eases, 0 at least", List.of(
                        "tell open 0;open 1;" + WORDS[kind] + " 0 " + grief, "behind(0, 1) = " + left,
                        "evening(1) = 1", "person(0, 2) = " + left, "kitchen(1, 2) = 1"));
            }
        }
    }

    private void grows() {
        for (int kind = 0; kind < 5; kind++) {
            for (int grief = 0; grief < BEARS[kind]; grief++) {
                int more = grief + GROWS[kind];
                runs.play("An evening: to whom it did not come on grief is more by how by kind it grows", List.of(
                        "tell open 4;open 4;" + WORDS[kind] + " 0 " + grief, "behind(0, 1) = " + more,
                        "evening(1) = 1", "person(0, 2) = " + more, "count(6) = 0"));
            }
        }
    }

    private void rising() {
        runs.run("An evening: these, rising, go", """
            tell open 0;open 1;open 1;man 2 40;wife 0 6;wife 0 40
            where(0, 0) = 1
            where(1, 0) = 2
            where(2, 0) = 7
            """);
        runs.run("An evening: to whom it does not come on takes no room", """
            tell open 0;open 1;wife 0 5;wife 0 6;wife 0 7
            where(0, 0) = NONE
            where(1, 0) = 1
            where(2, 0) = 7
            """);
    }

    private void nearest() {
        for (int home = 0; home < 7; home++) {
            StringBuilder one = new StringBuilder("tell ");
            for (int k = 0; k < 7; k++) {
                one.append(k == 0 ? "" : ";").append("open 1");
            }
            one.append((";wife " + home + " 6").repeat(6));
            List<String> lines = new ArrayList<>(List.of(one.toString()));
            List<Integer> order = new ArrayList<>();
            for (int off = 1; off < 7; off++) {
                if (home - off >= 0) {
                    order.add(home - off);
                }
                if (home + off < 7) {
                    order.add(home + off);
                }
            }
            for (int p = 0; p < 6; p++) {
                lines.add("where(" + p + ", 0) = " + order.get(p));
            }
            runs.play("An evening: to the nearest kitchen; of two as near the lesser number", lines);
        }
        runs.run("An evening: a nearer one of a greater number", """
            tell open 1;shut 1;open 1;open 1;wife 2 6
            where(0, 0) = 3
            """);
        runs.run("An evening: that is open", """
            tell shut 4;shut 4;open 0;shut 4;open 1;wife 2 6;wife 2 6
            where(0, 0) = 4
            where(1, 0) = 7
            door(1) = 1
            where(0, 0) = 1
            where(1, 0) = 1
            """);
    }

    private void notTheirHome() {
        runs.run("An evening: not their home, though it is open and has room", """
            tell open 4;hard 0 40
            where(0, 0) = 7
            field(0) = 0
            tell open 4
            where(0, 0) = 1
            """);
        runs.run("An evening: another may weep there", """
            tell open 1;shut 1;wife 0 6;wife 1 6
            where(0, 0) = 7
            where(1, 0) = 0
            """);
    }

    private void goes() {
        for (int kind = 0; kind < 5; kind++) {
            for (int off = 1; off <= 6; off++) {
                int there = off <= GOES[kind] ? off : 7;
                String text = "tell shut 0" + ";shut 4".repeat(off - 1) + ";open 4;" + WORDS[kind];
                runs.play("An evening: no farther than by kind one goes", List.of(text + " 0 40",
                        "where(0, 0) = " + there, "funeral(NONE) = " + (there == 7 ? 1 : 0)));
                String back = "tell open 4" + ";shut 4".repeat(off) + ";" + WORDS[kind] + " " + off + " 40";
                runs.play("An evening: no farther than by kind one goes", List.of(back,
                        "where(0, 0) = " + (there == 7 ? 7 : 0)));
            }
        }
    }

    private void notOfOneFallenOut() {
        for (int other = 1; other <= 5; other++) {
            String text = "tell open 4;open 4;wife 0 6" + ";hard 0 0".repeat(other - 1) + ";hard 1 0;fell 0 " + other;
            runs.play("An evening: not the home of one with whom they have fallen out", List.of(text, "where(0, 0) = 7",
                    "peace(" + other + ", 0) = 0", "where(0, 0) = 1", "undo() = 0", "where(0, 0) = 7"));
        }
        runs.run("An evening: fallen out, either way", """
            tell open 4;open 4;wife 0 6;wife 1 6;fell 1 0
            where(0, 0) = 7
            where(1, 0) = 7
            """);
        runs.run("An evening: the next nearest, if not there", """
            tell open 4;open 4;open 4;wife 1 6;wife 0 0;fell 0 1
            where(0, 0) = 2
            """);
        runs.run("An evening: one of a kitchen is enough, not one of another", """
            tell open 4;open 4;open 4;wife 1 6;wife 0 0;wife 0 0;wife 2 0;fell 0 2;fell 1 3
            where(0, 0) = 2
            peace(0, 2) = 0
            where(0, 0) = 0
            """);
        runs.run("An evening: fallen out with one of their own home changes nothing", """
            tell open 4;open 4;wife 0 6;wife 0 6;fell 0 1
            where(0, 0) = 1
            where(1, 0) = 1
            """);
        runs.run("An evening: both may weep in a third one's", """
            tell open 0;open 4;open 0;wife 0 6;wife 2 6;fell 0 1
            where(0, 0) = 1
            where(1, 0) = 1
            """);
    }

    private void room() {
        for (int room = 0; room <= 4; room++) {
            List<String> lines = new ArrayList<>(List.of("tell open 0;open " + room + ";wife 0 11".repeat(5)));
            for (int p = 0; p < 5; p++) {
                lines.add("where(" + p + ", 0) = " + (p < room ? 1 : 7));
                // behind this evening those who wept have 6 left, so that it comes on to all again
                lines.add("where(" + p + ", 1) = " + (p < room ? 1 : 7));
            }
            lines.addAll(List.of("evening(1) = 1", "kitchen(1, 2) = " + room, "evening(1) = 2",
                    "kitchen(1, 2) = " + 2 * room, "kitchen(0, 2) = 0"));
            runs.play("An evening: has room for one more than went there this evening; luck of it is 1 more", lines);
        }
    }

    private void field() {
        for (int kind = 0; kind < 5; kind++) {
            int b = BEARS[kind];
            runs.play("An evening: if there is none, to the field: grief is 1 less", List.of(
                    "tell open 4;" + WORDS[kind] + " 0 " + b + ";" + WORDS[kind] + " 0 40", "where(0, 0) = 7",
                    "where(1, 0) = 7", "evening(1) = 1", "person(0, 2) = " + (b - 1), "person(1, 2) = 39",
                    "count(6) = 0", "evening(1) = 2", "person(0, 2) = " + (b - 1 + GROWS[kind]), "person(1, 2) = 38"));
        }
    }

    private void nextEvening() {
        runs.run("An evening: then it is the next evening", """
            tell open 4;open 4;wife 0 6;man 1 11
            count(2) = 0
            evening(1) = 1
            count(2) = 1
            evening(2) = 3
            count(2) = 3
            """);
    }
}
