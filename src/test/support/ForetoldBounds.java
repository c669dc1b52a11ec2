import java.util.ArrayList;
import java.util.List;

/** Promises 16 to 23: where, behind, luck, field, doors, funeral, hearth, draught. */
final class ForetoldBounds {
    private final Runs runs;

    ForetoldBounds(Runs runs) {
        this.runs = runs;
    }

    void all() {
        evenings();
        sixtieth();
        field();
        doors();
        doorsFewest();
        funeral();
        funeralOrder();
        hearth();
        hearthBest();
        draught();
        draughtOdds();
        draughtOfSeven();
        fromNowOn();
    }

    private void evenings() {
        String title = ": n 0 .. 60; UNKNOWN; OUTSIDE; of both the first";
        List<String> names = List.of("where", "behind", "luck");
        for (int i = 0; i < names.size(); i++) {
            String name = names.get(i);
            List<String> lines = new ArrayList<>();
            lines.add(name + "(0, 0) = UNKNOWN");
            lines.add(name + "(0, 61) = UNKNOWN");
            lines.add("tell open 1;wife 0 0");
            for (String n : new String[] {"-1", "61", "LEAST", "MOST"}) {
                lines.add(name + "(0, " + n + ") = OUTSIDE");
            }
            for (String who : new String[] {"-1", "1", "7", "32", "LEAST", "MOST"}) {
                lines.add(name + "(" + who + ", 0) = UNKNOWN");
                lines.add(name + "(" + who + ", -1) = UNKNOWN");
                lines.add(name + "(" + who + ", 61) = UNKNOWN");
            }
            runs.play(16 + i + title, lines);
        }
        runs.run("19: UNKNOWN", """
            field(0) = UNKNOWN
            tell open 1;wife 0 0
            field(1) = UNKNOWN
            field(-1) = UNKNOWN
            field(LEAST) = UNKNOWN
            field(MOST) = UNKNOWN
            """);
    }

    private void sixtieth() {
        // alone, hard grows from 0: 20 in evening 20, then 19 and 20 by turns
        runs.run("16, 17: evening 0 is this one, evening 60 the last", """
            tell shut 1;hard 0 0;hard 0 20
            where(0, 0) = NONE
            where(1, 0) = 7
            where(1, 1) = NONE
            where(1, 2) = 7
            where(0, 19) = NONE
            where(0, 20) = 7
            where(0, 21) = NONE
            where(0, 59) = NONE
            where(0, 60) = 7
            behind(0, 0) = 0
            behind(0, 1) = 1
            behind(0, 20) = 20
            behind(0, 21) = 19
            behind(0, 59) = 19
            behind(0, 60) = 20
            behind(1, 0) = 20
            behind(1, 1) = 19
            behind(1, 59) = 19
            behind(1, 60) = 20
            """);
        // worn goes at 10, is 5 behind it, and is there again 6 evenings on: 0, 6 .., 54, 60
        runs.run("18: luck of a kitchen behind n evenings (0 .. 60)", """
            tell open 4;open 4;worn 0 10
            luck(0, 60) = 0
            luck(1, 0) = 0
            luck(1, 1) = 1
            luck(1, 6) = 1
            luck(1, 7) = 2
            luck(1, 54) = 9
            luck(1, 55) = 10
            luck(1, 60) = 10
            where(0, 60) = 1
            where(0, 59) = NONE
            evening(1) = 1
            luck(1, 0) = 1
            luck(1, 59) = 10
            luck(1, 60) = 11
            """);
    }

    private void field() {
        runs.run("19: the first of 0 .. 60 evenings", """
            tell shut 1;hard 0 20;hard 0 19;hard 0 0;hard 0 40
            field(0) = 0
            field(1) = 1
            field(2) = 20
            field(3) = 0
            """);
        // one room: 0 comes on in 14, 35, 56; 1 in 5, 11 .. 35 (no room then), 37 .. 61; 2 in 19, 40, 61 (no room then)
        runs.run("19: none behind evening 60", """
            tell open 1;open 1;hard 1 6;worn 1 5;hard 1 1
            field(0) = NONE
            field(1) = 35
            field(2) = NONE
            evening(1) = 1
            field(2) = 60
            where(2, 60) = 7
            evening(1) = 2
            field(2) = 59
            undo() = 1
            undo() = 0
            field(2) = NONE
            """);
        runs.run("19: none: it never comes on without room", """
            tell open 4;open 4;wife 0 40;hard 1 40
            field(0) = NONE
            field(1) = NONE
            """);
    }

    private void doors() {
        runs.run("20: for n evenings (1 .. 20); OUTSIDE", """
            doors(0) = OUTSIDE
            doors(-1) = OUTSIDE
            doors(21) = OUTSIDE
            doors(LEAST) = OUTSIDE
            doors(MOST) = OUTSIDE
            doors(1) = 0
            doors(20) = 0
            tell open 1;wife 0 6
            doors(0) = OUTSIDE
            doors(21) = OUTSIDE
            """);
        for (int n = 1; n <= 20; n++) {
            // it first comes on in the n-th evening
            int grief = 21 - n;
            runs.play("20: so that nobody goes to the field in n evenings", List.of("tell open 4;hard 0 " + grief,
                    "doors(" + n + ") = NONE", n > 1 ? "doors(" + (n - 1) + ") = 0" : "doors(1) = NONE",
                    "tell shut 1", "doors(" + n + ") = 2", n > 1 ? "doors(" + (n - 1) + ") = 0" : "doors(20) = 2"));
        }
        runs.run("20: not the 21st evening", """
            tell open 4;hard 0 0
            doors(20) = 0
            evening(1) = 1
            doors(20) = NONE
            doors(19) = 0
            """);
    }

    private void doorsFewest() {
        runs.run("20: as few as can be, though the number is greater", """
            tell open 0;open 1;open 1;open 2;man 2 12;wife 2 6
            doors(1) = 8
            """);
        runs.run("20: of as few the least as a number", """
            tell shut 1;shut 1;shut 1;shut 1;wife 3 6
            doors(1) = 1
            """);
        runs.run("20: all others shut, though they are open now", """
            tell open 4;open 4;open 4;wife 1 6
            doors(1) = 1
            count(3) = 7
            """);
        runs.run("20: none at all, if it comes on to nobody", """
            tell open 4;open 4;open 4;wife 1 5
            doors(1) = 0
            doors(2) = 1
            """);
        for (int people = 1; people <= 6; people++) {
            int bits = (1 << people + 1) - 2;
            runs.play("20: as many as it takes", List.of(
                    "tell open 4" + ";shut 1".repeat(6) + ";wife 0 6".repeat(people), "doors(1) = " + bits));
        }
        runs.run("20: all but the last, all of six", """
            tell shut 0;shut 1;shut 1;shut 1;shut 1;shut 1;shut 0;wife 0 6;wife 0 6;wife 0 6;wife 0 6;wife 0 6
            doors(1) = 62
            tell lane;shut 1;shut 1;shut 1;shut 1;shut 1;shut 1;wife 0 6;wife 1 6;wife 2 6;wife 3 6;wife 4 6;wife 5 6
            doors(1) = 63
            """);
        runs.run("20: none", """
            tell open 4;open 0;wife 0 6
            doors(1) = NONE
            """);
    }

    private void funeral() {
        runs.run("21: OUTSIDE: k NONE, 0 .. 5", """
            funeral(-2) = OUTSIDE
            funeral(6) = OUTSIDE
            funeral(LEAST) = OUTSIDE
            funeral(MOST) = OUTSIDE
            funeral(NONE) = 0
            funeral(0) = NONE
            funeral(5) = NONE
            tell open 1;wife 0 0
            funeral(-2) = OUTSIDE
            funeral(6) = OUTSIDE
            """);
        for (int people = 0; people <= 6; people++) {
            List<String> lines = new ArrayList<>(List.of("tell open 4;open 4" + ";man 0 0".repeat(people)));
            lines.add("funeral(NONE) = " + Math.max(0, people - 4));
            for (int k = 0; k <= 5; k++) {
                lines.add("funeral(" + k + ") = " + (k < people ? "" + k : "NONE"));
            }
            runs.play("21: the k-th who should go; NONE: there are fewer", lines);
        }
    }

    private void funeralOrder() {
        runs.run("21: this evening it comes on to all", """
            tell open 0;open 1;girl 0 0;hard 0 19;worn 0 40
            funeral(NONE) = 2
            funeral(0) = 0
            funeral(1) = 1
            funeral(2) = 2
            """);
        runs.run("21: fewest go to the field", """
            tell open 0;open 1;open 1;wife 0 0;man 0 0
            funeral(NONE) = 0
            funeral(0) = 1
            funeral(1) = 0
            funeral(2) = NONE
            door(2) = 0
            funeral(NONE) = 1
            funeral(0) = 0
            funeral(1) = 1
            """);
        runs.run("21: of several the first (by numbers, place by place)", """
            tell open 0;open 2;open 0;open 2;wife 0 0;man 0 0;wife 0 0;man 2 0
            funeral(NONE) = 0
            funeral(0) = 0
            funeral(1) = 1
            funeral(2) = 2
            funeral(3) = 3
            """);
        runs.run("21: who has but one goes ahead of who takes it from him", """
            tell open 0;open 2;open 0;shut 0;open 2;wife 0 0;man 0 0;wife 0 0;man 0 0
            funeral(NONE) = 0
            funeral(0) = 1
            funeral(1) = 3
            funeral(2) = 0
            funeral(3) = 2
            """);
        runs.run("21: fallen out, shut, no room count there too", """
            tell open 4;open 4;wife 0 0;wife 1 0;fell 0 1
            funeral(NONE) = 2
            peace(0, 1) = 0
            funeral(NONE) = 0
            door(0) = 0
            funeral(NONE) = 1
            """);
        runs.run("21: where all go to the field, the first order", """
            tell open 4;wife 0 0;wife 0 0;wife 0 0;wife 0 0;wife 0 0;wife 0 0
            funeral(NONE) = 6
            funeral(0) = 0
            funeral(1) = 1
            funeral(2) = 2
            funeral(3) = 3
            funeral(4) = 4
            funeral(5) = 5
            """);
        runs.run("21: six, the last first", """
            tell open 0;open 1;open 1;open 1;open 1;open 1;open 1
            tell wife 0 0;wife 0 0;wife 0 0;wife 0 0;wife 0 0;man 0 0
            funeral(NONE) = 0
            funeral(0) = 5
            funeral(1) = 0
            funeral(2) = 1
            funeral(3) = 2
            funeral(4) = 3
            funeral(5) = 4
            """);
    }

    private void hearth() {
        runs.run("22: for n evenings (1 .. 20), what 0, 1; OUTSIDE, also where there are no kitchens", """
            hearth(0, 0) = OUTSIDE
            hearth(21, 0) = OUTSIDE
            hearth(-1, 1) = OUTSIDE
            hearth(1, 2) = OUTSIDE
            hearth(1, -1) = OUTSIDE
            hearth(LEAST, 0) = OUTSIDE
            hearth(MOST, 0) = OUTSIDE
            hearth(1, LEAST) = OUTSIDE
            hearth(20, MOST) = OUTSIDE
            hearth(1, 0) = NONE
            hearth(1, 1) = NONE
            hearth(20, 0) = NONE
            hearth(20, 1) = NONE
            tell open 1;wife 0 6
            hearth(0, 0) = OUTSIDE
            hearth(21, 1) = OUTSIDE
            hearth(1, 2) = OUTSIDE
            hearth(1, -1) = OUTSIDE
            hearth(1, 0) = 0
            """);
        runs.run("22: kitchens, but nobody", """
            tell shut 0;shut 0
            hearth(20, 0) = 0
            hearth(20, 1) = 0
            """);
    }

    private void hearthBest() {
        for (int n = 1; n <= 20; n++) {
            // hard stays at home in the only kitchen, and is in the field from evening 20 - g on, every other one
            runs.play("22: each who goes, each evening", List.of("tell open 0;hard 0 40;hard 0 40",
                    "hearth(" + n + ", 0) = 0", "hearth(" + n + ", 1) = " + 2 * n));
            int first = 21 - n;
            runs.play("22: the n-th evening counts, the next does not", List.of("tell open 0;hard 0 " + first,
                    "hearth(" + n + ", 1) = 1", n > 1 ? "hearth(" + (n - 1) + ", 1) = 0" : "hearth(2, 1) = 1"));
        }
        runs.run("22: it should have room 4", """
            tell open 0;open 1;open 1;wife 0 6;wife 0 6;wife 0 6;wife 0 6;wife 0 6;wife 0 6
            hearth(1, 0) = 1
            hearth(1, 1) = 1
            kitchen(1, 1) = 1
            """);
        runs.run("22: and be open", """
            tell shut 0;shut 4;shut 0;wife 0 40;wife 2 40
            hearth(4, 0) = 1
            hearth(4, 1) = 0
            kitchen(1, 0) = 0
            count(3) = 0
            """);
        runs.run("22: of several the least", """
            tell shut 0;shut 0;shut 0;wife 1 40
            hearth(20, 0) = 0
            tell wife 0 40
            hearth(20, 0) = 2
            """);
        runs.run("22: one that is shut now is open and one with room keeps it", """
            tell open 4;open 4;wife 0 40;wife 1 40
            hearth(20, 0) = 0
            hearth(20, 1) = 0
            """);
        runs.run("22: the last of seven", """
            tell shut 0;shut 0;shut 0;shut 0;shut 0;shut 0;shut 0
            tell man 5 40;wife 0 40;wife 1 40;wife 2 40;man 4 0;fell 0 4
            hearth(1, 0) = 6
            hearth(1, 1) = 0
            """);
    }

    private void draught() {
        runs.run("23: q 0 .. 4, part 0, 1; OUTSIDE", """
            draught(-1, 0) = OUTSIDE
            draught(5, 0) = OUTSIDE
            draught(0, -1) = OUTSIDE
            draught(0, 2) = OUTSIDE
            draught(LEAST, 0) = OUTSIDE
            draught(MOST, 1) = OUTSIDE
            draught(4, LEAST) = OUTSIDE
            draught(4, MOST) = OUTSIDE
            draught(0, 0) = 1
            draught(0, 1) = 1
            draught(4, 0) = 1
            draught(4, 1) = 1
            """);
    }

    private void odds(String title, String text, int... parts) {
        List<String> lines = new ArrayList<>(List.of("tell " + text));
        for (int q = 0; q <= 4; q++) {
            lines.add("draught(" + q + ", 0) = " + parts[2 * q]);
            lines.add("draught(" + q + ", 1) = " + parts[2 * q + 1]);
        }
        runs.play("23: " + title, lines);
    }

    private void draughtOdds() {
        odds("all are shut, nobody weeps", "open 0;shut 4;wife 0 5", 1, 1, 1, 1, 1, 1, 1, 1, 1, 1);
        odds("one that is shut stays shut", "open 4;shut 4;wife 0 6", 0, 1, 0, 1, 0, 1, 0, 1, 0, 1);
        odds("one kitchen", "shut 4;open 4;wife 0 6", 1, 1, 3, 4, 1, 2, 1, 4, 0, 1);
        odds("their home is no matter", "open 4;open 4;wife 0 6", 1, 1, 3, 4, 1, 2, 1, 4, 0, 1);
        odds("either of two", "shut 4;open 4;open 4;wife 0 6", 1, 1, 15, 16, 3, 4, 7, 16, 0, 1);
        odds("both of two, each by itself", "shut 4;open 1;open 1;wife 0 6;wife 0 6", 1, 1, 9, 16, 1, 4, 1, 16, 0, 1);
        odds("each to the other's", "open 1;open 1;wife 0 6;wife 1 6", 1, 1, 9, 16, 1, 4, 1, 16, 0, 1);
        odds("somebody goes there anyway", "open 1;open 1;wife 0 6;wife 0 6", 0, 1, 0, 1, 0, 1, 0, 1, 0, 1);
        odds("this evening only", "shut 4;open 4;wife 0 6;wife 0 5", 1, 1, 3, 4, 1, 2, 1, 4, 0, 1);
    }

    private void draughtOfSeven() {
        // the wife has six others: 1 less all six shut, of 4 to the 6th
        odds("seven, lowest terms", "open 1;open 1;open 1;open 1;open 1;open 1;open 1;wife 0 6",
                1, 1, 4095, 4096, 63, 64, 4096 - 729, 4096, 0, 1);
        // six wives, one to each of six kitchens: all six must stay open
        odds("six must stay open",
                "open 0" + ";open 1".repeat(6) + ";wife 0 6".repeat(6),
                1, 1, 729, 4096, 1, 64, 1, 4096, 0, 1);
        // one of the two has none if all others are shut: none open, 0 alone, 1 alone
        odds("four to the seventh", "open 4;open 4;open 4;open 4;open 4;open 4;open 4;wife 0 6;wife 1 6",
                1, 1, 16377, 16384, 125, 128, 12739, 16384, 0, 1);
    }

    private void fromNowOn() {
        runs.run("Foretold: from now on, behind what was done", """
            tell open 1;shut 1;wife 0 4;man 0 12
            where(0, 0) = NONE
            where(0, 1) = 7
            field(0) = 1
            door(1) = 1
            where(0, 1) = 1
            where(1, 0) = 1
            evening(1) = 1
            where(0, 0) = 1
            behind(0, 0) = 6
            behind(0, 1) = 1
            luck(1, 0) = 1
            luck(1, 1) = 2
            door(1) = 0
            where(0, 0) = 7
            undo() = 2
            where(0, 0) = 1
            """);
    }
}
