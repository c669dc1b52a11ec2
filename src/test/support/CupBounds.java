import java.util.ArrayList;
import java.util.List;

/** Promises 28 to 34: cups, what they hold, and what the machine finds. */
final class CupBounds {
    private final Runs runs;

    CupBounds(Runs runs) {
        this.runs = runs;
    }

    void all() {
        made();
        madeAnew();
        putIn();
        putRefused();
        roomFor();
        takenOut();
        takeRefused();
        ends();
        turned();
        turnRefused();
        poured();
        pourRefused();
        alike();
        dropped();
        apart();
        manyCalls();
    }

    private void made() {
        for (int cup = 0; cup < 3; cup++) {
            for (int n = 0; n <= 9; n++) {
                runs.play("28: a cup is a new one, for n things (0 to 9)", List.of("drop(" + cup + ") = NULL",
                        "cup(" + cup + ", " + n + ") = " + n, "count(8) = 0", "turn(" + cup + ", 0) = 0",
                        "drop(" + cup + ") = 0"));
            }
        }
        runs.run("28: UNKNOWN; OUTSIDE (n above 9); SIZE; of several the first", """
            cup(3, 1) = UNKNOWN
            cup(-1, 1) = UNKNOWN
            cup(LEAST, 1) = UNKNOWN
            cup(MOST, 1) = UNKNOWN
            cup(3, 10) = UNKNOWN
            cup(-1, 10) = UNKNOWN
            cup(3, -1) = UNKNOWN
            cup(-1, -1) = UNKNOWN
            cup(0, 10) = OUTSIDE
            cup(2, MOST) = OUTSIDE
            cup(0, -1) = SIZE
            cup(2, LEAST) = SIZE
            drop(0) = NULL
            drop(2) = NULL
            """);
        runs.run("28: what is refused leaves the cup that is there", """
            cup(1, 2) = 2
            put(1, 0, 0, 5) = 1
            cup(1, 10) = OUTSIDE
            cup(1, -1) = SIZE
            put(1, 0, 2, 6) = 2
            put(1, 0, 2, 6) = ROOM
            take(1, 1, 0) = 50005
            """);
    }

    private void madeAnew() {
        runs.run("28: a new one holds nothing of the old one", """
            cup(0, 9) = 9
            put(0, 1, 0, 5) = 1
            put(0, 1, 0, 6) = 2
            cup(0, 1) = 1
            count(8) = 0
            take(0, 0, 0) = EMPTY
            put(0, 0, 0, 7) = 1
            put(0, 0, 0, 8) = ROOM
            cup(0, 9) = 9
            put(0, 0, 0, 8) = 1
            put(0, 0, 0, 9) = 2
            take(0, 1, 0) = 50008
            cup(0, 0) = 0
            put(0, 0, 0, 9) = ROOM
            """);
    }

    private void putIn() {
        runs.run("29: a number (-9999 .. 9999), a person, a tear (0 .. 99)", """
            tell open 0;wife 0 0;man 0 0;girl 0 0;hard 0 0;worn 0 0;wife 0 0
            cup(0, 9) = 9
            put(0, 1, 0, 9999) = 1
            put(0, 1, 0, -9999) = 2
            put(0, 1, 0, 0) = 3
            put(0, 1, 1, 0) = 4
            put(0, 1, 1, 5) = 5
            put(0, 1, 2, 0) = 6
            put(0, 1, 2, 99) = 7
            take(0, 0, 0) = 59999
            take(0, 0, 0) = 40001
            take(0, 0, 0) = 50000
            take(0, 0, 1) = 0
            take(0, 0, 1) = 5
            take(0, 0, 2) = 0
            take(0, 0, 2) = 99
            take(0, 0, 2) = EMPTY
            """);
        runs.run("29: OUTSIDE: the number, the tear", """
            cup(0, 9) = 9
            put(0, 0, 0, 10000) = OUTSIDE
            put(0, 0, 0, -10000) = OUTSIDE
            put(0, 0, 0, LEAST) = OUTSIDE
            put(0, 0, 0, MOST) = OUTSIDE
            put(0, 0, 2, 100) = OUTSIDE
            put(0, 0, 2, -1) = OUTSIDE
            put(0, 0, 2, LEAST) = OUTSIDE
            put(0, 0, 2, MOST) = OUTSIDE
            count(8) = 0
            """);
        runs.run("29: OUTSIDE: end, what", """
            cup(0, 9) = 9
            put(0, -1, 0, 1) = OUTSIDE
            put(0, 2, 0, 1) = OUTSIDE
            put(0, LEAST, 0, 1) = OUTSIDE
            put(0, MOST, 0, 1) = OUTSIDE
            put(0, 0, -1, 1) = OUTSIDE
            put(0, 0, 4, 1) = OUTSIDE
            put(0, 0, LEAST, 1) = OUTSIDE
            put(0, 0, MOST, 1) = OUTSIDE
            """);
        runs.run("29: UNKNOWN: the cup; by what 1 the person", """
            tell open 0;wife 0 0;man 0 0
            cup(0, 9) = 9
            put(3, 0, 0, 1) = UNKNOWN
            put(-1, 0, 0, 1) = UNKNOWN
            put(LEAST, 0, 0, 1) = UNKNOWN
            put(MOST, 0, 0, 1) = UNKNOWN
            put(0, 0, 1, 2) = UNKNOWN
            put(0, 0, 1, -1) = UNKNOWN
            put(0, 0, 1, LEAST) = UNKNOWN
            put(0, 0, 1, MOST) = UNKNOWN
            put(0, 0, 1, 1) = 1
            put(0, 0, 0, 2) = 2
            put(0, 0, 2, 2) = 3
            """);
        runs.run("29: nothing: v is no matter", """
            cup(0, 9) = 9
            put(0, 0, 3, 0) = NOTHING
            put(0, 1, 3, LEAST) = NOTHING
            put(0, 0, 3, MOST) = NOTHING
            put(0, 0, 3, 10000) = NOTHING
            count(8) = 0
            """);
    }

    private void putRefused() {
        runs.run("29: of several refusals the first: UNKNOWN", """
            tell open 0;wife 0 0
            put(3, 2, 0, 0) = UNKNOWN
            put(3, 0, 4, 0) = UNKNOWN
            put(-1, 0, 0, 10000) = UNKNOWN
            put(3, 0, 2, 100) = UNKNOWN
            put(3, 0, 3, 0) = UNKNOWN
            put(3, 0, 1, 1) = UNKNOWN
            put(0, 2, 1, 1) = UNKNOWN
            put(0, 0, 1, 1) = UNKNOWN
            cup(0, 0) = 0
            put(0, 0, 1, 1) = UNKNOWN
            put(0, -1, 1, -1) = UNKNOWN
            """);
        runs.run("29: of several refusals the first: OUTSIDE", """
            tell open 0;wife 0 0
            put(0, 2, 0, 0) = OUTSIDE
            put(0, 2, 1, 0) = OUTSIDE
            put(0, 2, 3, 0) = OUTSIDE
            put(0, 0, 4, 0) = OUTSIDE
            put(0, 0, -1, 0) = OUTSIDE
            put(0, 0, 0, 10000) = OUTSIDE
            put(0, 0, 2, 100) = OUTSIDE
            cup(0, 0) = 0
            put(0, 2, 0, 0) = OUTSIDE
            put(0, 2, 1, 0) = OUTSIDE
            put(0, -1, 3, 0) = OUTSIDE
            put(0, 0, 4, 0) = OUTSIDE
            put(0, 0, 0, -10000) = OUTSIDE
            put(0, 0, 2, -1) = OUTSIDE
            """);
        runs.run("29: of several refusals the first: NULL, NOTHING, ROOM", """
            tell open 0;wife 0 0
            put(0, 0, 3, 0) = NULL
            put(0, 0, 0, 0) = NULL
            put(1, 1, 1, 0) = NULL
            put(2, 0, 2, 0) = NULL
            cup(0, 0) = 0
            put(0, 0, 3, 0) = NOTHING
            put(0, 1, 3, 0) = NOTHING
            put(0, 0, 0, 0) = ROOM
            put(0, 1, 1, 0) = ROOM
            put(0, 0, 2, 0) = ROOM
            """);
    }

    private void roomFor() {
        for (int end = 0; end <= 1; end++) {
            for (int n = 0; n <= 9; n++) {
                List<String> lines = new ArrayList<>(List.of("cup(1, " + n + ") = " + n));
                for (int i = 1; i <= n; i++) {
                    lines.add("put(1, " + end + ", 0, " + i + ") = " + i);
                }
                lines.addAll(List.of("put(1, 0, 0, 77) = ROOM", "put(1, 1, 2, 77) = ROOM", "put(1, 1, 3, 0) = NOTHING",
                        "count(8) = " + n));
                for (int i = 1; i <= n; i++) {
                    lines.add("take(1, 0, 0) = " + (50000 + (end == 1 ? i : n + 1 - i)));
                }
                lines.add("take(1, 0, 0) = EMPTY");
                lines.add("take(1, 1, 0) = EMPTY");
                runs.play("29: hold up to so many things as they were made for; ROOM", lines);
            }
        }
    }

    private void takenOut() {
        runs.run("30: that number, and 50000 more; the person; the tear", """
            tell open 0;wife 0 0;wife 0 0;wife 0 0
            cup(2, 3) = 3
            put(2, 1, 0, -1) = 1
            put(2, 1, 1, 2) = 2
            put(2, 1, 2, 50) = 3
            take(2, 0, 0) = 49999
            count(8) = 2
            take(2, 1, 2) = 50
            take(2, 0, 1) = 2
            count(8) = 0
            """);
        runs.run("30: CAST: something else is there", """
            tell open 0;wife 0 0;wife 0 0;wife 0 0
            cup(0, 3) = 3
            put(0, 1, 0, 2) = 1
            put(0, 1, 1, 2) = 2
            put(0, 1, 2, 2) = 3
            take(0, 0, 1) = CAST
            take(0, 0, 2) = CAST
            take(0, 1, 0) = CAST
            take(0, 1, 1) = CAST
            turn(0, 1) = 3
            take(0, 0, 0) = CAST
            take(0, 0, 2) = CAST
            take(0, 1, 1) = CAST
            take(0, 1, 2) = CAST
            count(8) = 3
            take(0, 0, 1) = 2
            take(0, 0, 2) = 2
            take(0, 0, 0) = 50002
            """);
    }

    private void takeRefused() {
        runs.run("30: UNKNOWN; OUTSIDE; NULL; EMPTY; CAST: of several the first", """
            take(3, 0, 0) = UNKNOWN
            take(-1, 0, 0) = UNKNOWN
            take(LEAST, 0, 0) = UNKNOWN
            take(MOST, 0, 0) = UNKNOWN
            take(3, 2, 0) = UNKNOWN
            take(3, 0, 3) = UNKNOWN
            take(0, -1, 0) = OUTSIDE
            take(0, 2, 0) = OUTSIDE
            take(0, 0, -1) = OUTSIDE
            take(0, 0, 3) = OUTSIDE
            take(0, 0, 0) = NULL
            take(1, 1, 1) = NULL
            take(2, 1, 2) = NULL
            cup(0, 0) = 0
            take(0, 2, 0) = OUTSIDE
            take(0, 0, 3) = OUTSIDE
            take(0, 0, 0) = EMPTY
            take(0, 1, 1) = EMPTY
            take(0, 0, 2) = EMPTY
            cup(0, 1) = 1
            put(0, 0, 2, 5) = 1
            take(0, 2, 0) = OUTSIDE
            take(0, -1, 2) = OUTSIDE
            take(0, 0, 3) = OUTSIDE
            take(0, LEAST, 2) = OUTSIDE
            take(0, MOST, 2) = OUTSIDE
            take(0, 0, LEAST) = OUTSIDE
            take(0, 0, MOST) = OUTSIDE
            take(0, 0, 0) = CAST
            take(0, 1, 1) = CAST
            take(0, 1, 2) = 5
            take(0, 1, 2) = EMPTY
            """);
    }

    private void ends() {
        runs.run("29, 30: 0 ahead of all, 1 behind all", """
            cup(0, 9) = 9
            put(0, 0, 0, 1) = 1
            put(0, 0, 0, 2) = 2
            put(0, 1, 0, 3) = 3
            put(0, 0, 0, 4) = 4
            put(0, 1, 0, 5) = 5
            take(0, 1, 0) = 50005
            take(0, 0, 0) = 50004
            take(0, 0, 0) = 50002
            take(0, 1, 0) = 50003
            take(0, 1, 0) = 50001
            take(0, 1, 0) = EMPTY
            """);
        for (int step = 1; step <= 9; step++) {
            for (int way = 0; way <= 1; way++) {
                List<String> lines = new ArrayList<>(List.of("cup(0, 9) = 9"));
                int next = 0;
                int first = 0;
                // the row goes round its places more than twice, in steps
                while (next < 20) {
                    for (int i = 0; i < step; i++) {
                        lines.add("put(0, " + way + ", 0, " + next++ + ") = " + (i + 1));
                    }
                    for (int i = 0; i < step; i++) {
                        lines.add("take(0, " + (1 - way) + ", 0) = " + (50000 + first++));
                    }
                }
                lines.add("take(0, 0, 0) = EMPTY");
                runs.play("30: round and round", lines);
            }
        }
    }

    private void turned() {
        for (int held = 1; held <= 9; held++) {
            for (int n : new int[] {0, 1, held - 1, held, held + 1, 98, 99}) {
                List<String> lines = new ArrayList<>(List.of("cup(0, 9) = 9"));
                for (int i = 0; i < held; i++) {
                    lines.add("put(0, 1, 0, " + i + ") = " + (i + 1));
                }
                lines.add("turn(0, " + n + ") = " + held);
                for (int i = 0; i < held; i++) {
                    lines.add("take(0, 0, 0) = " + (50000 + (i + n) % held));
                }
                runs.play("31: what is ahead of all comes behind all, n times (0 .. 99)", lines);
            }
        }
        runs.run("31: a full cup is turned too", """
            tell open 0;wife 0 0
            cup(0, 2) = 2
            put(0, 1, 2, 7) = 1
            put(0, 1, 1, 0) = 2
            turn(0, 1) = 2
            take(0, 0, 1) = 0
            take(0, 0, 2) = 7
            """);
    }

    private void turnRefused() {
        runs.run("31: UNKNOWN; OUTSIDE; NULL; EMPTY (n above 0): of several the first", """
            turn(3, 0) = UNKNOWN
            turn(-1, 0) = UNKNOWN
            turn(LEAST, 0) = UNKNOWN
            turn(MOST, 0) = UNKNOWN
            turn(3, 100) = UNKNOWN
            turn(-1, -1) = UNKNOWN
            turn(0, -1) = OUTSIDE
            turn(0, 100) = OUTSIDE
            turn(0, LEAST) = OUTSIDE
            turn(0, MOST) = OUTSIDE
            turn(0, 0) = NULL
            turn(0, 1) = NULL
            turn(2, 99) = NULL
            cup(0, 3) = 3
            turn(0, -1) = OUTSIDE
            turn(0, 100) = OUTSIDE
            turn(0, 0) = 0
            turn(0, 1) = EMPTY
            turn(0, 99) = EMPTY
            put(0, 0, 0, 1) = 1
            turn(0, -1) = OUTSIDE
            turn(0, 100) = OUTSIDE
            turn(0, 0) = 1
            turn(0, 99) = 1
            cup(1, 0) = 0
            turn(1, 0) = 0
            turn(1, 1) = EMPTY
            """);
    }

    private void poured() {
        runs.run("32: one by one from ahead of all, behind all that is there", """
            tell open 0;wife 0 0;man 0 0
            cup(0, 3) = 3
            cup(2, 9) = 9
            put(0, 1, 0, 1) = 1
            put(0, 1, 1, 1) = 2
            put(0, 1, 2, 1) = 3
            put(2, 1, 2, 8) = 1
            put(2, 1, 0, 9) = 2
            pour(0, 2) = 5
            count(8) = 5
            take(0, 0, 0) = EMPTY
            take(2, 0, 2) = 8
            take(2, 0, 0) = 50009
            take(2, 0, 0) = 50001
            take(2, 0, 1) = 1
            take(2, 0, 2) = 1
            """);
        for (int had = 0; had <= 5; had++) {
            for (int more = 0; more <= 5; more++) {
                List<String> lines = new ArrayList<>(List.of("cup(0, 9) = 9", "cup(1, 5) = 5"));
                for (int i = 1; i <= more; i++) {
                    lines.add("put(0, 0, 2, " + i + ") = " + i);
                }
                for (int i = 1; i <= had; i++) {
                    lines.add("put(1, 0, 0, " + i + ") = " + i);
                }
                boolean fits = had + more <= 5;
                lines.add("pour(0, 1) = " + (fits ? "" + (had + more) : "ROOM"));
                lines.add("turn(0, 0) = " + (fits ? 0 : more));
                lines.add("turn(1, 0) = " + (fits ? had + more : had));
                runs.play("32: how many that holds then; ROOM", lines);
            }
        }
        runs.run("32: nine, the most; the cup that was poured out may be filled again", """
            cup(0, 9) = 9
            cup(1, 9) = 9
            put(0, 1, 0, 1) = 1
            put(0, 1, 0, 2) = 2
            put(0, 1, 0, 3) = 3
            put(0, 1, 0, 4) = 4
            put(0, 1, 0, 5) = 5
            put(0, 1, 0, 6) = 6
            put(0, 1, 0, 7) = 7
            put(0, 1, 0, 8) = 8
            put(0, 1, 0, 9) = 9
            pour(0, 1) = 9
            pour(1, 0) = 9
            turn(0, 4) = 9
            pour(0, 1) = 9
            take(1, 0, 0) = 50005
            take(1, 1, 0) = 50004
            put(0, 0, 0, 11) = 1
            put(0, 0, 0, 12) = 2
            pour(0, 1) = 9
            take(1, 1, 0) = 50011
            """);
    }

    private void pourRefused() {
        runs.run("32: UNKNOWN (another, not the same); NULL (either); ROOM: of several the first", """
            pour(0, 0) = UNKNOWN
            pour(2, 2) = UNKNOWN
            pour(3, 0) = UNKNOWN
            pour(0, 3) = UNKNOWN
            pour(-1, 0) = UNKNOWN
            pour(0, -1) = UNKNOWN
            pour(3, 3) = UNKNOWN
            pour(LEAST, 0) = UNKNOWN
            pour(0, MOST) = UNKNOWN
            pour(0, 1) = NULL
            cup(0, 1) = 1
            put(0, 0, 0, 5) = 1
            pour(0, 1) = NULL
            pour(1, 0) = NULL
            pour(0, 0) = UNKNOWN
            pour(0, 3) = UNKNOWN
            pour(-1, 0) = UNKNOWN
            cup(1, 0) = 0
            pour(0, 1) = ROOM
            pour(1, 0) = 1
            take(0, 0, 0) = 50005
            pour(0, 1) = 0
            """);
    }

    private void alike() {
        runs.run("33: UNKNOWN; NULL (either); one and the same", """
            like(3, 0) = UNKNOWN
            like(0, 3) = UNKNOWN
            like(-1, 0) = UNKNOWN
            like(0, -1) = UNKNOWN
            like(3, 3) = UNKNOWN
            like(LEAST, 0) = UNKNOWN
            like(0, MOST) = UNKNOWN
            like(0, 0) = NULL
            like(0, 1) = NULL
            cup(0, 3) = 3
            like(0, 1) = NULL
            like(1, 0) = NULL
            like(0, 0) = 1
            like(0, 3) = UNKNOWN
            put(0, 0, 0, 1) = 1
            like(0, 0) = 1
            """);
        runs.run("33: the same in the same order, whatever they were made for", """
            tell open 0;wife 0 0;man 0 0
            cup(0, 3) = 3
            cup(1, 9) = 9
            like(0, 1) = 1
            put(0, 1, 0, 1) = 1
            like(0, 1) = 0
            like(1, 0) = 0
            put(1, 1, 0, 2) = 1
            like(0, 1) = 0
            put(1, 0, 0, 1) = 2
            like(0, 1) = 0
            like(1, 0) = 0
            put(0, 1, 0, 2) = 2
            like(0, 1) = 1
            like(1, 0) = 1
            turn(0, 1) = 2
            like(0, 1) = 0
            turn(1, 3) = 2
            like(0, 1) = 1
            """);
        runs.run("33: what was there and is taken out is no matter", """
            cup(0, 9) = 9
            cup(1, 9) = 9
            put(0, 1, 0, 5) = 1
            put(0, 1, 0, 6) = 2
            put(0, 1, 0, 7) = 3
            put(1, 1, 0, 6) = 1
            take(0, 0, 0) = 50005
            take(0, 1, 0) = 50007
            like(0, 1) = 1
            like(1, 0) = 1
            take(0, 1, 0) = 50006
            take(1, 1, 0) = 50006
            like(0, 1) = 1
            """);
        String[] things = {"0, 1", "1, 1", "2, 1", "0, 0", "1, 0", "2, 0"};
        for (int a = 0; a < things.length; a++) {
            for (int b = 0; b < things.length; b++) {
                runs.play("33: a number, a person, a tear are not the same", List.of("tell open 0;wife 0 0;man 0 0",
                        "cup(0, 2) = 2", "cup(2, 1) = 1", "put(0, 1, " + things[a] + ") = 1",
                        "put(2, 0, " + things[b] + ") = 1", "like(0, 2) = " + (a == b ? 1 : 0),
                        "like(2, 0) = " + (a == b ? 1 : 0)));
            }
        }
    }

    private void dropped() {
        for (int cup = 0; cup < 3; cup++) {
            for (int held = 0; held <= 9; held++) {
                List<String> lines = new ArrayList<>(List.of("cup(" + cup + ", 9) = 9"));
                for (int i = 1; i <= held; i++) {
                    lines.add("put(" + cup + ", 0, 2, 1) = " + i);
                }
                lines.addAll(List.of("drop(" + cup + ") = " + held, "drop(" + cup + ") = NULL", "count(8) = 0",
                        "take(" + cup + ", 0, 2) = NULL", "put(" + cup + ", 0, 2, 1) = NULL",
                        "turn(" + cup + ", 0) = NULL", "cup(" + cup + ", 1) = 1", "take(" + cup + ", 0, 2) = EMPTY"));
                runs.play("34: a cup is missing from now on: how many it held", lines);
            }
        }
        runs.run("34: UNKNOWN", """
            drop(3) = UNKNOWN
            drop(-1) = UNKNOWN
            drop(LEAST) = UNKNOWN
            drop(MOST) = UNKNOWN
            cup(0, 1) = 1
            drop(3) = UNKNOWN
            drop(1) = NULL
            drop(0) = 0
            """);
    }

    private void apart() {
        runs.run("Cups: 0 .. 2, each by itself, and no deeds", """
            tell open 0;wife 0 6
            cup(0, 1) = 1
            cup(1, 2) = 2
            cup(2, 3) = 3
            put(1, 0, 0, 4) = 1
            put(2, 0, 0, 5) = 1
            turn(2, 3) = 1
            take(0, 0, 0) = EMPTY
            drop(1) = 1
            count(8) = 1
            take(2, 1, 0) = 50005
            count(9) = 0
            count(5) = 6
            evening(1) = 1
            undo() = 0
            put(0, 0, 0, 1) = 1
            keep(0) = 0
            back(0) = 0
            take(0, 0, 0) = 50001
            """);
    }

    private void manyCalls() {
        List<String> lines = new ArrayList<>(List.of("cup(0, 9) = 9"));
        for (int i = 0; i < 9; i++) {
            lines.add("put(0, 0, 0, " + i + ") = " + (i + 1));
        }
        for (int i = 0; i < 250; i++) {
            lines.add("take(0, 1, 0) = " + (50000 + i));
            lines.add("put(0, 0, 0, " + (i + 9) + ") = 9");
        }
        lines.add("take(0, 0, 0) = 50258");
        lines.add("turn(0, 99) = 8");
        runs.play("What it is: 512 calls on one object", lines);
    }
}
