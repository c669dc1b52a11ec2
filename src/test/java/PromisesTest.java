/** For each promise of the document: ordinary calls, the edges that it names, and refusals in their order. */
public final class PromisesTest {
    private static final int NONE = -1, UNKNOWN = -2, OUTSIDE = -3, NOT = -4, FULL = -5, NULL = -11, NOTHING = -12,
            EMPTY = -13, CAST = -14, ROOM = -15, SIZE = -16;
    private static final int LEAST = Integer.MIN_VALUE, MOST = Integer.MAX_VALUE;

    /** Seven kitchens and six people, of whom the first evening is worked out by hand in promise16. */
    private static final String FULL_LANE = "open 1;open 2;shut 4;open 0;open 1;shut 2;open 3;"
            + "wife 1 8;girl 1 3;man 2 12;hard 4 25;worn 0 10;wife 6 5;fell 0 3;fell 1 2;fell 5 4";

    private static int wrong = 0;
    private static int made = 0;

    private static void due(int promise, String call, int got, int want) {
        made++;
        if (got != want) {
            wrong++;
            System.out.println("promise " + promise + ": " + call + " answered " + got + ", due is " + want);
        }
    }

    private static void write(DoorTears x, String text) {
        for (int i = 0; i < text.length(); i++) {
            x.write(text.charAt(i));
        }
    }

    private static DoorTears told(String text) {
        DoorTears x = new DoorTears();
        tell(x, text);
        return x;
    }

    private static void tell(DoorTears x, String text) {
        write(x, text);
        if (x.lane() < 0) {
            due(5, "lane() of " + text, x.fault(), NONE);
        }
    }

    private static String times(String part, int n) {
        return part.repeat(n);
    }

    private static void promise1() {
        DoorTears x = new DoorTears();
        for (int what = 0; what <= 10; what++) {
            due(1, "count(" + what + ")", x.count(what), 0);
        }
        for (int cup = 0; cup < 3; cup++) {
            due(1, "drop", x.drop(cup), NULL);
        }
        due(1, "kitchen(0,0)", x.kitchen(0, 0), UNKNOWN);
    }

    private static void promise2() {
        DoorTears x = new DoorTears();
        due(2, "write(-1)", x.write(-1), OUTSIDE);
        due(2, "write(256)", x.write(256), OUTSIDE);
        due(2, "write(0)", x.write(0), 1);
        due(2, "write(255)", x.write(255), 2);
        for (int i = 3; i <= 200; i++) {
            due(2, "write(32)", x.write(32), i);
        }
        due(2, "write(32) of 201", x.write(32), FULL);
        due(2, "write(256) of 201", x.write(256), OUTSIDE);
        due(2, "write(least)", x.write(LEAST), OUTSIDE);
        due(2, "count(10)", x.count(10), 200);
    }

    private static void promise3() {
        DoorTears x = new DoorTears();
        due(3, "erase()", x.erase(), 0);
        write(x, times(" ", 200));
        due(3, "erase()", x.erase(), 200);
        due(3, "erase()", x.erase(), 0);
        due(3, "write", x.write(32), 1);
    }

    private static void faultIs(String text, int place) {
        faultBehind("", text, place);
    }

    private static void faultBehind(String earlier, String text, int place) {
        DoorTears x = earlier.isEmpty() ? new DoorTears() : told(earlier);
        int kitchens = x.count(0);
        write(x, text);
        due(4, "fault() of '" + text + "'", x.fault(), place);
        due(4, "fault() again", x.fault(), place);
        due(4, "count(10)", x.count(10), text.length());
        due(4, "count(0)", x.count(0), kitchens);
        if (place != NONE) {
            due(5, "lane() of '" + text + "'", x.lane(), NOT);
            due(5, "count(10)", x.count(10), text.length());
            due(5, "count(0)", x.count(0), kitchens);
        }
    }

    private static void promise4() {
        faultIs("", 0);
        faultIs("   ", 3);
        faultIs(";", 0);
        faultIs("lane", NONE);
        faultIs(" lane ", NONE);
        faultIs("lane;", 5);
        faultIs("lane; ", 6);
        faultIs("lane;;lane", 5);
        faultIs("lane 1", 5);
        faultIs("lane lane", 5);
        faultIs("lanes", 0);
        faultIs("lanez", 0);
        faultIs("alane", 0);
        faultIs("lan", 0);
        faultIs("Lane", 0);
        faultIs("lanE", 0);
        faultIs("4", 0);
        faultIs("open", 4);
        faultIs("open ", 5);
        faultIs("open;", 4);
        faultIs("open x", 5);
        faultIs("open -1", 5);
        faultIs("open 4", NONE);
        faultIs("open 04", NONE);
        faultIs("open1", NONE);
        faultIs("open   1  ;  shut  2", NONE);
        faultIs("open 5", 5);
        faultIs("open 004", 5);
        faultIs("open 000000000000", 5);
        faultIs("open 99999999999", 5);
        faultIs("open 1 2", 7);
        faultIs("open 1x", 6);
        faultIs("open 1,", 6);
        faultIs("open" + (char) 9 + "1", 4);
        faultIs("open 1" + (char) 10, 6);
        faultIs("open 1" + (char) 0, 6);
        faultIs("open " + (char) 233, 5);
        faultIs("shut", 4);
        faultIs("shut 5", 5);
        promise4People();
        promise4Most();
    }

    private static void promise4People() {
        faultIs("wife 0 0", 5);
        for (String word : new String[] {"wife", "girl", "hard", "worn"}) {
            faultIs("open 1;" + word + " 0 40", NONE);
            faultIs("open 1;" + word + " 1 40", 12);
            faultIs("open 1;" + word + " 0 41", 14);
            faultIs("open 1;" + word + " 0 040", 14);
            faultIs("open 1;" + word + " 0", 13);
            faultIs("open 1;" + word, 11);
        }
        faultIs("open 1;man 0 40", NONE);
        faultIs("open 1;man 0 41", 13);
        faultIs("open 1;wife 00 07", NONE);
        faultIs("open 1;wife 0 1;fell 0 1", 23);
        faultIs("open 1;wife 0 1;fell 0 0", 23);
        faultIs("open 1;wife 0 1;fell 1 0", 21);
        faultIs("fell 0 1", 5);
        faultIs("open 1;wife 0 1;man 0 1;fell 0 1", NONE);
        faultIs("open 1;wife 0 1;man 0 1;fell 0 1;fell 1 0", NONE);
        faultIs("open 1;wife 0 1;man 0 1;fell 0", 30);
        faultIs("open 1;wife 0 1;man 0 1;fell 0 01", NONE);
        faultIs("open 1;wife 0 1;man 0 1;fell 0 00", 31);
        faultIs("open 1;wife 0 1;lane;wife 0 1", 26);
        faultBehind("open 1", "wife 0 1", NONE);
        faultBehind("open 1", "wife 1 1", 5);
        faultBehind("open 1;wife 0 1", "man 0 1;fell 0 1", NONE);
        faultBehind("open 1;wife 0 1", "lane;wife 0 1", 10);
    }

    private static void promise4Most() {
        faultIs(times("open 0;", 6) + "shut 0", NONE);
        faultIs(times("open 0;", 7) + "shut 0", 49);
        faultIs(times("open 0;", 7) + "open 9", 49);
        faultIs(times("open 0;", 7) + "lane;open 9", 59);
        faultBehind(times("open 0;", 6) + "open 0", "shut 1", 0);
        faultBehind(times("open 0;", 6) + "open 0", "lane;shut 1", NONE);
        faultIs("open 1" + times(";wife 0 1", 6), NONE);
        faultIs("open 1" + times(";wife 0 1", 6) + ";worn 0 1", 61);
        faultBehind("open 1" + times(";wife 0 1", 6), "man 0 1", 0);
        faultBehind("open 1" + times(";wife 0 1", 6), "open 1", NONE);
        faultIs(times("lane;", 23) + "lane", NONE);
        // behind 24 clauses no ; can stand
        faultIs(times("lane;", 24) + "lane", 119);
        faultIs(times("lane;", 24), 119);
        faultIs(times("lane;", 23) + "lane x", 120);
    }

    private static void promise5() {
        DoorTears x = new DoorTears();
        due(5, "lane()", x.lane(), NOT);
        write(x, "open 2;shut 3;wife 0 7;man 1 9;fell 0 1");
        due(5, "lane()", x.lane(), 5);
        due(5, "count(10)", x.count(10), 0);
        due(5, "lane()", x.lane(), NOT);
        x.evening(3);
        x.door(1);
        x.peace(0, 1);
        x.grieve(0, 9);
        x.keep(0);
        x.seen(1, 0, 3);
        for (int cup = 0; cup < 3; cup++) {
            x.cup(cup, 3);
        }
        x.put(1, 0, 0, 3);
        write(x, "open 9");
        due(5, "lane() with a fault", x.lane(), NOT);
        due(5, "count(2)", x.count(2), 3);
        due(5, "count(9)", x.count(9), 4);
        due(5, "count(7)", x.count(7), 1);
        due(5, "count(8)", x.count(8), 1);
        due(5, "back(0)", x.back(0), 3);
        x.erase();
        x.door(0);
        write(x, " girl 1 2 ; open 1 ");
        due(5, "lane()", x.lane(), 2);
        due(5, "count(0)", x.count(0), 3);
        due(5, "count(1)", x.count(1), 3);
        due(5, "count(2)", x.count(2), 0);
        due(5, "count(3): doors as told", x.count(3), 0b101);
        due(5, "count(5): grief as told", x.count(5), 18);
        due(5, "count(6)", x.count(6), 0);
        due(5, "count(7)", x.count(7), 0);
        due(5, "count(9)", x.count(9), 0);
        due(5, "person(0,3): fallen out as told", x.person(0, 3), 2);
        due(5, "undo()", x.undo(), NOT);
        due(5, "back(0)", x.back(0), NOT);
        for (int cup = 0; cup < 3; cup++) {
            due(5, "drop(" + cup + ")", x.drop(cup), NULL);
        }
        write(x, "lane;shut 1");
        due(5, "lane()", x.lane(), 2);
        due(5, "count(0)", x.count(0), 1);
        due(5, "count(1)", x.count(1), 0);
        due(5, "count(2)", x.count(2), 0);
        due(5, "count(3)", x.count(3), 0);
        write(x, "wife 0 1;wife 0 1");
        due(5, "lane()", x.lane(), 2);
        due(5, "person(0,3): nobody new has fallen out", x.person(0, 3), 0);
    }

    private static void promise6() {
        DoorTears x = told("open 3;shut 4;wife 1 6;man 0 12;girl 1 0");
        int[][] dues = {{1, 3, 0, 0b010}, {0, 4, 0, 0b101}};
        for (int k = 0; k < 2; k++) {
            for (int what = 0; what < 4; what++) {
                due(6, "kitchen(" + k + "," + what + ")", x.kitchen(k, what), dues[k][what]);
            }
        }
        x.evening(1);
        due(6, "kitchen(0,2)", x.kitchen(0, 2), 1);
        due(6, "kitchen(1,2)", x.kitchen(1, 2), 0);
        due(6, "kitchen(2,0)", x.kitchen(2, 0), UNKNOWN);
        due(6, "kitchen(-1,9)", x.kitchen(-1, 9), UNKNOWN);
        due(6, "kitchen(most,0)", x.kitchen(MOST, 0), UNKNOWN);
        due(6, "kitchen(0,-1)", x.kitchen(0, -1), OUTSIDE);
        due(6, "kitchen(0,4)", x.kitchen(0, 4), OUTSIDE);
    }

    private static void promise7() {
        DoorTears x = told("open 3;shut 4;wife 1 5;man 0 12;girl 1 3;hard 0 19;worn 1 10;wife 0 6;fell 0 2;fell 4 0");
        int[][] dues = {{0, 1, 5, 0b10100, 0}, {1, 0, 12, 0, 1}, {2, 1, 3, 1, 1}, {3, 0, 19, 0, 0}, {4, 1, 10, 1, 1},
            {0, 0, 6, 0, 1}};
        for (int p = 0; p < 6; p++) {
            for (int what = 0; what < 5; what++) {
                due(7, "person(" + p + "," + what + ")", x.person(p, what), dues[p][what]);
            }
        }
        due(7, "person(6,0)", x.person(6, 0), UNKNOWN);
        due(7, "person(-1,9)", x.person(-1, 9), UNKNOWN);
        due(7, "person(least,0)", x.person(LEAST, 0), UNKNOWN);
        due(7, "person(0,-1)", x.person(0, -1), OUTSIDE);
        due(7, "person(0,5)", x.person(0, 5), OUTSIDE);
    }

    private static void promise8() {
        DoorTears x = told("open 1;wife 0 0;man 0 0;girl 0 0;hard 0 0;worn 0 0");
        int[][] dues = {{6, 6, NOT, NOT, NOT, NOT}, {12, 12, 12, NOT, NOT, NOT}, {3, 3, NOT, 3, NOT, NOT},
            {20, NOT, NOT, NOT, 20, NOT}, {10, NOT, NOT, NOT, 10, 10}};
        for (int p = 0; p < 5; p++) {
            for (int kind = 0; kind < 6; kind++) {
                due(8, "as(" + p + "," + kind + ")", x.as(p, kind), dues[p][kind]);
            }
        }
        due(8, "as(5,9)", x.as(5, 9), UNKNOWN);
        due(8, "as(0,6)", x.as(0, 6), OUTSIDE);
        due(8, "as(0,-1)", x.as(0, -1), OUTSIDE);
        due(8, "as(0,32)", x.as(0, 32), OUTSIDE);
    }

    private static void promise9() {
        DoorTears x = told(FULL_LANE);
        due(9, "evening(0)", x.evening(0), OUTSIDE);
        due(9, "evening(13)", x.evening(13), OUTSIDE);
        due(9, "evening(-1)", x.evening(-1), OUTSIDE);
        due(9, "evening(1)", x.evening(1), 1);
        int[] griefs = {3, 0, 11, 5, 5, 7};
        int[] lucks = {1, 1, 0, 0, 1, 0, 1};
        checkGriefs(9, x, griefs);
        for (int k = 0; k < 7; k++) {
            due(9, "kitchen(" + k + ",2)", x.kitchen(k, 2), lucks[k]);
        }
        due(9, "evening(1)", x.evening(1), 2);
        checkGriefs(9, x, new int[] {5, 3, 13, 6, 6, 2});
        due(9, "kitchen(4,2)", x.kitchen(4, 2), 2);
        due(9, "undo()", x.undo(), 1);
        checkGriefs(9, x, griefs);
        due(9, "evening(12)", x.evening(12), 13);
        due(9, "undo()", x.undo(), 1);
        checkGriefs(9, x, griefs);

        DoorTears y = told("shut 1;girl 0 4;hard 0 20");
        due(9, "evening(2)", y.evening(2), 2);
        checkGriefs(9, y, new int[] {2, 20});
        for (int i = 0; i < 83; i++) {
            y.evening(12);
        }
        due(9, "count(2)", y.count(2), 998);
        due(9, "evening(2)", y.evening(2), FULL);
        due(9, "evening(13)", y.evening(13), OUTSIDE);
        due(9, "evening(1)", y.evening(1), 999);
        due(9, "evening(1)", y.evening(1), FULL);
        due(9, "behind(0,60)", y.behind(0, 60) >= 0 ? 1 : 0, 1);
        due(9, "count(2)", y.count(2), 999);
    }

    private static void checkGriefs(int promise, DoorTears x, int[] griefs) {
        for (int p = 0; p < griefs.length; p++) {
            due(promise, "person(" + p + ",2)", x.person(p, 2), griefs[p]);
        }
    }

    private static void promise10() {
        DoorTears x = told("open 1;shut 1;wife 0 6");
        due(10, "where(0,0)", x.where(0, 0), 7);
        due(10, "door(1)", x.door(1), 1);
        due(10, "where(0,0)", x.where(0, 0), 1);
        due(10, "count(3)", x.count(3), 3);
        due(10, "door(0)", x.door(0), 0);
        due(10, "door(1)", x.door(1), 0);
        due(10, "count(3)", x.count(3), 0);
        due(10, "door(2)", x.door(2), UNKNOWN);
        due(10, "door(-1)", x.door(-1), UNKNOWN);
        due(10, "door(32)", x.door(32), UNKNOWN);
        due(10, "count(9)", x.count(9), 3);
    }

    private static void promise11() {
        DoorTears x = told("open 1;wife 0 6;man 0 39");
        due(11, "grieve(0,1)", x.grieve(0, 1), 7);
        due(11, "grieve(0,40)", x.grieve(0, 40), 40);
        due(11, "grieve(0,1)", x.grieve(0, 1), NOT);
        due(11, "grieve(0,0)", x.grieve(0, 0), OUTSIDE);
        due(11, "grieve(0,41)", x.grieve(0, 41), OUTSIDE);
        due(11, "grieve(1,0)", x.grieve(1, 0), OUTSIDE);
        due(11, "grieve(1,most)", x.grieve(1, MOST), OUTSIDE);
        due(11, "grieve(2,0)", x.grieve(2, 0), UNKNOWN);
        due(11, "grieve(-1,1)", x.grieve(-1, 1), UNKNOWN);
        due(11, "grieve(1,1)", x.grieve(1, 1), 40);
        due(11, "count(9)", x.count(9), 3);
        due(11, "person(1,2)", x.person(1, 2), 40);
    }

    private static void promise12() {
        DoorTears x = told("open 1;open 1;wife 0 6;man 1 12;girl 1 0;fell 0 1;fell 2 0");
        due(12, "where(0,0)", x.where(0, 0), 7);
        due(12, "peace(1,2)", x.peace(1, 2), NOT);
        due(12, "peace(1,1)", x.peace(1, 1), UNKNOWN);
        due(12, "peace(3,0)", x.peace(3, 0), UNKNOWN);
        due(12, "peace(0,3)", x.peace(0, 3), UNKNOWN);
        due(12, "peace(-1,0)", x.peace(-1, 0), UNKNOWN);
        due(12, "peace(0,1)", x.peace(0, 1), 1);
        due(12, "person(0,3)", x.person(0, 3), 4);
        due(12, "person(1,3)", x.person(1, 3), 0);
        due(12, "where(0,0)", x.where(0, 0), 7);
        due(12, "peace(1,0)", x.peace(1, 0), NOT);
        due(12, "peace(2,0)", x.peace(2, 0), 0);
        due(12, "where(0,0)", x.where(0, 0), 1);
        due(12, "count(9)", x.count(9), 2);
        due(12, "undo()", x.undo(), 1);
        due(12, "person(0,3)", x.person(0, 3), 4);
        due(12, "person(2,3)", x.person(2, 3), 1);
    }

    private static void promise13() {
        DoorTears x = told("open 1;open 1;wife 0 6;man 1 12;fell 0 1");
        due(13, "undo()", x.undo(), NOT);
        x.door(0);
        x.grieve(0, 5);
        x.peace(0, 1);
        x.evening(2);
        due(13, "undo() of evening", x.undo(), 3);
        due(13, "count(2)", x.count(2), 0);
        due(13, "count(6)", x.count(6), 0);
        due(13, "count(5)", x.count(5), 23);
        due(13, "undo() of peace", x.undo(), 2);
        due(13, "person(1,3)", x.person(1, 3), 1);
        due(13, "undo() of grieve", x.undo(), 1);
        due(13, "person(0,2)", x.person(0, 2), 6);
        due(13, "undo() of door", x.undo(), 0);
        due(13, "count(3)", x.count(3), 3);
        due(13, "undo()", x.undo(), NOT);
        for (int i = 0; i < 10; i++) {
            x.grieve(0, 1);
            due(13, "count(9)", x.count(9), Math.min(8, i + 1));
        }
        for (int i = 7; i >= 0; i--) {
            due(13, "undo()", x.undo(), i);
        }
        due(13, "undo()", x.undo(), NOT);
        due(13, "person(0,2)", x.person(0, 2), 8);
        x.grieve(0, 0);
        x.door(9);
        x.peace(0, 0);
        x.evening(0);
        due(13, "what was refused can't be undone", x.undo(), NOT);
        x.cup(0, 2);
        x.seen(1, 0, 3);
        x.keep(1);
        x.door(0);
        due(13, "undo()", x.undo(), 0);
        due(13, "count(7)", x.count(7), 1);
        due(13, "drop(0)", x.drop(0), 0);
        due(13, "back(1)", x.back(1), 0);
    }

    private static void promise14and15() {
        DoorTears x = told("open 1;open 1;wife 0 6;man 1 12;fell 0 1");
        due(14, "keep(2)", x.keep(2), UNKNOWN);
        due(14, "keep(-1)", x.keep(-1), UNKNOWN);
        due(15, "back(2)", x.back(2), UNKNOWN);
        due(15, "back(-1)", x.back(-1), UNKNOWN);
        due(15, "back(0)", x.back(0), NOT);
        x.peace(0, 1);
        x.evening(1);
        due(14, "keep(0)", x.keep(0), 1);
        due(14, "count(9)", x.count(9), 2);
        due(15, "back(1)", x.back(1), NOT);
        x.door(0);
        x.evening(12);
        due(14, "keep(1)", x.keep(1), 13);
        due(15, "back(0)", x.back(0), 1);
        due(15, "count(9)", x.count(9), 0);
        due(15, "undo()", x.undo(), NOT);
        due(15, "count(2)", x.count(2), 1);
        due(15, "count(3)", x.count(3), 3);
        due(15, "count(5)", x.count(5), 8);
        due(15, "count(6)", x.count(6), 2);
        due(15, "person(0,3)", x.person(0, 3), 0);
        x.evening(1);
        due(15, "back(0) again", x.back(0), 1);
        due(15, "back(1)", x.back(1), 13);
        due(15, "count(3)", x.count(3), 2);
        due(14, "keep(0)", x.keep(0), 13);
        due(15, "back(0)", x.back(0), 13);
        tell(x, "open 1");
        due(15, "back(0) behind a text", x.back(0), NOT);
    }

    private static void promise16to19() {
        DoorTears x = told(FULL_LANE);
        int[] first = {0, 4, 7, 6, 1, NONE};
        int[] second = {NONE, NONE, NONE, NONE, NONE, 4};
        int[] third = {NONE, 0, 7, NONE, NONE, NONE};
        int[][] griefs = {{8, 3, 12, 25, 10, 5}, {3, 0, 11, 5, 5, 7}, {5, 3, 13, 6, 6, 2}, {7, 0, 12, 7, 7, 4}};
        for (int p = 0; p < 6; p++) {
            due(16, "where(" + p + ",0)", x.where(p, 0), first[p]);
            due(16, "where(" + p + ",1)", x.where(p, 1), second[p]);
            due(16, "where(" + p + ",2)", x.where(p, 2), third[p]);
            for (int n = 0; n < 4; n++) {
                due(17, "behind(" + p + "," + n + ")", x.behind(p, n), griefs[n][p]);
            }
        }
        due(18, "luck(4,0)", x.luck(4, 0), 0);
        due(18, "luck(4,1)", x.luck(4, 1), 1);
        due(18, "luck(4,2)", x.luck(4, 2), 2);
        due(18, "luck(2,60)", x.luck(2, 60), 0);
        due(19, "field(2)", x.field(2), 0);
        due(16, "count(2): nothing changes", x.count(2), 0);
        due(16, "count(5): nothing changes", x.count(5), 63);
        due(16, "count(6): nothing changes", x.count(6), 0);
        due(16, "count(9): nothing changes", x.count(9), 0);
        due(16, "where(6,61)", x.where(6, 61), UNKNOWN);
        due(16, "where(0,-1)", x.where(0, -1), OUTSIDE);
        due(16, "where(0,61)", x.where(0, 61), OUTSIDE);
        due(17, "behind(-1,61)", x.behind(-1, 61), UNKNOWN);
        due(17, "behind(0,-1)", x.behind(0, -1), OUTSIDE);
        due(17, "behind(0,61)", x.behind(0, 61), OUTSIDE);
        due(18, "luck(7,61)", x.luck(7, 61), UNKNOWN);
        due(18, "luck(0,-1)", x.luck(0, -1), OUTSIDE);
        due(18, "luck(0,most)", x.luck(0, MOST), OUTSIDE);
        due(19, "field(6)", x.field(6), UNKNOWN);
        due(19, "field(-1)", x.field(-1), UNKNOWN);
        foretoldFarAhead();
    }

    private static void foretoldFarAhead() {
        // alone: hard grows from 0 by 1 an evening, so that it comes on in evening 20
        DoorTears x = told("shut 1;hard 0 0");
        due(19, "field(0)", x.field(0), 20);
        due(16, "where(0,19)", x.where(0, 19), NONE);
        due(16, "where(0,20)", x.where(0, 20), 7);
        due(17, "behind(0,20)", x.behind(0, 20), 20);
        due(17, "behind(0,21)", x.behind(0, 21), 19);
        due(17, "behind(0,60)", x.behind(0, 60), 20);
        // the open kitchen eases hard to 0 at evenings 20, 41: it never is in the field
        DoorTears y = told("shut 1;open 1;hard 0 0;hard 0 19;hard 0 18;worn 1 0");
        due(16, "where(1,1)", y.where(1, 1), 1);
        due(19, "field(0)", y.field(0), NONE);
        due(18, "luck(1,60)", y.luck(1, 60), 8);
        DoorTears z = told("open 1;open 1;hard 0 1;hard 0 1");
        due(19, "field(1)", z.field(1), 19);
        due(19, "field(0)", z.field(0), NONE);
        // 0 comes on in 14, 35, 56; 1 in 5, 11 .. 35 (0 has the room: to the field), 37, 43 .. 61; 2 in 19, 40, 61
        DoorTears last = told("open 1;open 1;hard 1 6;worn 1 5;hard 1 1");
        due(19, "field(1)", last.field(1), 35);
        due(19, "field(2)", last.field(2), NONE);
        last.evening(1);
        due(19, "field(2)", last.field(2), 60);
        due(16, "where(2,60)", last.where(2, 60), 7);
        due(16, "where(1,60)", last.where(1, 60), 0);
    }

    private static void goals() {
        DoorTears x = told("open 1;open 1;open 1;open 1;open 1;wife 2 6;wife 2 6;wife 2 6;wife 2 6;wife 2 6");
        int[] near = {1, 3, 0, 4, 7};
        for (int p = 0; p < 5; p++) {
            due(16, "nearest first, of two the lesser: where(" + p + ",0)", x.where(p, 0), near[p]);
        }
        DoorTears m = told("shut 1;open 1;open 1;open 1;man 1 12;man 2 12;man 3 12;man 0 11");
        due(16, "a man goes 1", m.where(0, 0), 2);
        due(16, "a man goes 1", m.where(1, 0), 1);
        due(16, "a man goes 1 and 2 is full", m.where(2, 0), 7);
        due(16, "11 is not 12", m.where(3, 0), NONE);
        DoorTears f = told("open 4;open 4;open 4;girl 0 3;hard 1 0;worn 0 0;fell 1 0;fell 0 2");
        due(16, "not where one fallen out lives", f.where(0, 0), 2);
        DoorTears zero = told("open 4;open 4;wife 0 0;wife 1 6;fell 0 1");
        due(16, "not where person 0 lives, fallen out", zero.where(1, 0), 7);
        DoorTears far = told("open 1;shut 0;shut 0;shut 0;shut 0;shut 0;shut 0;worn 6 10");
        due(16, "all the lane", far.where(0, 0), 0);
    }

    private static void promise20() {
        DoorTears none = new DoorTears();
        due(20, "doors(20)", none.doors(20), 0);
        due(20, "doors(0)", none.doors(0), OUTSIDE);
        due(20, "doors(21)", none.doors(21), OUTSIDE);
        due(20, "doors(-1)", none.doors(-1), OUTSIDE);
        DoorTears x = told("open 1;open 1;open 1;wife 0 6");
        due(20, "doors(1)", x.doors(1), 2);
        DoorTears y = told("open 1;shut 1;shut 1;wife 0 6;wife 0 6");
        due(20, "doors(1)", y.doors(1), 6);
        due(20, "count(3)", y.count(3), 1);
        DoorTears z = told("shut 0;shut 2;girl 0 0");
        due(20, "doors(1)", z.doors(1), 0);
        due(20, "doors(2)", z.doors(2), 2);
        DoorTears n = told("open 4;open 0;wife 0 0;wife 1 6");
        due(20, "doors(1)", n.doors(1), 1);
        due(20, "doors(3)", n.doors(3), 1);
        due(20, "doors(4)", n.doors(4), NONE);
        // one kitchen with room for both is fewer than two, though its number is greater
        DoorTears few = told("open 0;open 1;open 1;open 2;man 2 12;wife 2 6");
        due(20, "doors(1)", few.doors(1), 8);
    }

    private static void promise21() {
        DoorTears none = new DoorTears();
        due(21, "funeral(NONE)", none.funeral(NONE), 0);
        due(21, "funeral(0)", none.funeral(0), NONE);
        due(21, "funeral(-2)", none.funeral(-2), OUTSIDE);
        due(21, "funeral(6)", none.funeral(6), OUTSIDE);
        DoorTears x = told("open 0;open 1;open 1;wife 0 0;man 0 0");
        int[] order = {0, 1, 0, NONE, NONE, NONE, NONE};
        for (int k = NONE; k < 6; k++) {
            due(21, "funeral(" + k + ")", x.funeral(k), order[k + 1]);
        }
        due(21, "count(5)", x.count(5), 0);
        due(21, "count(6)", x.count(6), 0);
        x.door(1);
        due(21, "shut: funeral(NONE)", x.funeral(NONE), 1);
        due(21, "shut: funeral(0)", x.funeral(0), 0);
        // the man of kitchen 2 has but kitchen 1, so he goes ahead of the wife, who has kitchen 0 as well
        DoorTears y = told("open 1;open 1;open 0;open 0;wife 3 0;man 2 0");
        due(21, "funeral(NONE)", y.funeral(NONE), 0);
        due(21, "funeral(0)", y.funeral(0), 1);
        DoorTears six = told("open 1;wife 0 0;wife 0 0;wife 0 0;wife 0 0;wife 0 0;wife 0 0");
        due(21, "funeral(NONE)", six.funeral(NONE), 6);
        for (int k = 0; k < 6; k++) {
            due(21, "funeral(" + k + ")", six.funeral(k), k);
        }
    }

    private static void promise22() {
        DoorTears none = new DoorTears();
        due(22, "hearth(1,0)", none.hearth(1, 0), NONE);
        due(22, "hearth(1,1)", none.hearth(1, 1), NONE);
        due(22, "hearth(0,0)", none.hearth(0, 0), OUTSIDE);
        due(22, "hearth(21,0)", none.hearth(21, 0), OUTSIDE);
        due(22, "hearth(1,2)", none.hearth(1, 2), OUTSIDE);
        due(22, "hearth(1,-1)", none.hearth(1, -1), OUTSIDE);
        DoorTears x = told("open 0;open 0;open 0;man 0 12;wife 2 6;wife 2 6");
        due(22, "hearth(1,0)", x.hearth(1, 0), 1);
        due(22, "hearth(1,1)", x.hearth(1, 1), 0);
        due(22, "kitchen(1,1)", x.kitchen(1, 1), 0);
        DoorTears shut = told("shut 1;open 0;wife 1 40");
        due(22, "hearth(20,0)", shut.hearth(20, 0), 0);
        due(22, "hearth(20,1)", shut.hearth(20, 1), 0);
        due(22, "kitchen(0,0)", shut.kitchen(0, 0), 0);
        DoorTears like = told("open 0;open 0;open 0;wife 1 6");
        due(22, "hearth(5,0)", like.hearth(5, 0), 0);
        DoorTears y = told("open 0;open 0;hard 0 40;hard 1 40");
        due(22, "hearth(3,0)", y.hearth(3, 0), 0);
        due(22, "hearth(3,1)", y.hearth(3, 1), 3);
        due(22, "hearth(20,1)", y.hearth(20, 1), 20);
    }

    private static void oddsAre(DoorTears x, int q, int above, int below) {
        due(23, "draught(" + q + ",0)", x.draught(q, 0), above);
        due(23, "draught(" + q + ",1)", x.draught(q, 1), below);
    }

    private static void promise23() {
        DoorTears x = told("open 1;open 1;open 1;shut 1;wife 0 6");
        oddsAre(x, 0, 1, 1);
        oddsAre(x, 1, 15, 16);
        oddsAre(x, 2, 3, 4);
        oddsAre(x, 3, 7, 16);
        oddsAre(x, 4, 0, 1);
        due(23, "count(3)", x.count(3), 7);
        due(23, "draught(-1,0)", x.draught(-1, 0), OUTSIDE);
        due(23, "draught(5,0)", x.draught(5, 0), OUTSIDE);
        due(23, "draught(1,2)", x.draught(1, 2), OUTSIDE);
        due(23, "draught(1,-1)", x.draught(1, -1), OUTSIDE);
        DoorTears pair = told("open 1;open 1;wife 0 6");
        oddsAre(pair, 1, 3, 4);
        oddsAre(pair, 2, 1, 2);
        oddsAre(pair, 3, 1, 4);
        DoorTears calm = told("open 1;open 1;wife 0 5");
        oddsAre(calm, 4, 1, 1);
        oddsAre(calm, 1, 1, 1);
        DoorTears all = told("open 1;open 1;open 1;open 1;open 1;open 1;open 1;wife 0 6;wife 1 6");
        // 0 is in the field if 1 .. 6 are all shut, or 1 if it is left with none: by counting over 4 to the 7th
        int field = fieldWays();
        int gcd = 1;
        while (field % (gcd * 2) == 0 && gcd < 16384) {
            gcd *= 2;
        }
        oddsAre(all, 1, (16384 - field) / gcd, 16384 / gcd);
    }

    /** Of 16384, by a quarter each: the ways in which one of the two in promise23's full lane has no kitchen. */
    private static int fieldWays() {
        int ways = 0;
        for (int open = 0; open < 128; open++) {
            int others = Integer.bitCount(open >> 2);
            boolean first = (open & 1) != 0;
            boolean second = (open & 2) != 0;
            boolean zeroGoes = second || others > 0;
            int left = second ? others : others - 1;
            boolean oneGoes = first || left > 0;
            if (!zeroGoes || !oneGoes) {
                int weight = 1;
                for (int k = 0; k < 7; k++) {
                    weight *= (open >> k & 1) == 1 ? 3 : 1;
                }
                ways += weight;
            }
        }
        return ways;
    }

    private static void promise24to27() {
        DoorTears x = new DoorTears();
        due(24, "seen(-1,0,0)", x.seen(-1, 0, 0), OUTSIDE);
        due(24, "seen(41,0,0)", x.seen(41, 0, 0), OUTSIDE);
        due(24, "seen(0,-1,0)", x.seen(0, -1, 0), OUTSIDE);
        due(24, "seen(0,2,0)", x.seen(0, 2, 0), OUTSIDE);
        due(24, "seen(0,0,-1)", x.seen(0, 0, -1), OUTSIDE);
        due(24, "seen(0,0,41)", x.seen(0, 0, 41), OUTSIDE);
        due(26, "kinds()", x.kinds(), 31);
        due(27, "ask()", x.ask(), 0);
        for (int i = 1; i <= 6; i++) {
            due(24, "seen(0,0,2)", x.seen(0, 0, 2), i);
        }
        due(24, "seen(0,0,2)", x.seen(0, 0, 2), FULL);
        due(24, "seen(0,2,2)", x.seen(0, 2, 2), OUTSIDE);
        due(26, "kinds()", x.kinds(), 3);
        due(27, "ask()", x.ask(), 6);
        due(25, "forget()", x.forget(), 6);
        due(25, "forget()", x.forget(), 0);
        due(26, "kinds()", x.kinds(), 31);
        int[][] dues = {
            {5, 0, 6, 24, 10}, {5, 0, 7, 3, 6}, {5, 1, 0, 4, NONE}, {5, 0, 5, 0, NONE}, {20, 1, 0, 8, NONE},
            {20, 1, 15, 23, 0}, {10, 1, 5, 21, 0}, {10, 0, 12, 2, NONE}, {10, 0, 11, 8, NONE}, {6, 1, 1, 5, 0},
            {3, 1, 0, 4, NONE}, {3, 0, 4, 24, 10}, {2, 0, 5, 4, NONE}, {10, 0, 5, 0, NONE}, {40, 1, 40, 0, NONE}};
        for (int[] d : dues) {
            due(24, "seen(" + d[0] + "," + d[1] + "," + d[2] + ")", x.seen(d[0], d[1], d[2]), 1);
            due(26, "kinds() by " + d[0] + "," + d[1] + "," + d[2], x.kinds(), d[3]);
            due(27, "ask() by " + d[0] + "," + d[1] + "," + d[2], x.ask(), d[4]);
            due(25, "forget()", x.forget(), 1);
        }
        x.seen(6, 1, 1);
        x.seen(5, 0, 7);
        due(26, "kinds(): all that is seen", x.kinds(), 1);
        due(27, "ask(): one is not parted", x.ask(), NONE);
    }

    private static void promise28() {
        DoorTears x = new DoorTears();
        due(28, "cup(3,10)", x.cup(3, 10), UNKNOWN);
        due(28, "cup(-1,-1)", x.cup(-1, -1), UNKNOWN);
        due(28, "cup(0,10)", x.cup(0, 10), OUTSIDE);
        due(28, "cup(0,most)", x.cup(0, MOST), OUTSIDE);
        due(28, "cup(0,-1)", x.cup(0, -1), SIZE);
        due(28, "cup(0,least)", x.cup(0, LEAST), SIZE);
        due(28, "drop(0)", x.drop(0), NULL);
        due(28, "cup(0,0)", x.cup(0, 0), 0);
        due(28, "cup(2,9)", x.cup(2, 9), 9);
        x.put(2, 0, 0, 1);
        due(28, "cup(2,-1)", x.cup(2, -1), SIZE);
        due(28, "count(8)", x.count(8), 1);
        due(28, "cup(2,1)", x.cup(2, 1), 1);
        due(28, "count(8)", x.count(8), 0);
        due(28, "put", x.put(2, 0, 0, 1), 1);
        due(28, "put", x.put(2, 0, 0, 1), ROOM);
    }

    private static void promise29() {
        DoorTears x = told("open 1;wife 0 0;man 0 0");
        due(29, "put(3,0,0,0)", x.put(3, 0, 0, 0), UNKNOWN);
        due(29, "put(-1,5,5,0)", x.put(-1, 5, 5, 0), UNKNOWN);
        due(29, "put(0,2,1,2)", x.put(0, 2, 1, 2), UNKNOWN);
        due(29, "put(0,0,1,-1)", x.put(0, 0, 1, -1), UNKNOWN);
        due(29, "put(0,2,1,1)", x.put(0, 2, 1, 1), OUTSIDE);
        due(29, "put(0,-1,0,1)", x.put(0, -1, 0, 1), OUTSIDE);
        due(29, "put(0,0,4,1)", x.put(0, 0, 4, 1), OUTSIDE);
        due(29, "put(0,0,-1,1)", x.put(0, 0, -1, 1), OUTSIDE);
        due(29, "put(0,0,0,10000)", x.put(0, 0, 0, 10000), OUTSIDE);
        due(29, "put(0,0,0,-10000)", x.put(0, 0, 0, -10000), OUTSIDE);
        due(29, "put(0,0,0,least)", x.put(0, 0, 0, LEAST), OUTSIDE);
        due(29, "put(0,0,2,-1)", x.put(0, 0, 2, -1), OUTSIDE);
        due(29, "put(0,0,2,100)", x.put(0, 0, 2, 100), OUTSIDE);
        due(29, "put(0,2,3,0)", x.put(0, 2, 3, 0), OUTSIDE);
        due(29, "put(0,0,3,0)", x.put(0, 0, 3, 0), NULL);
        due(29, "put(0,0,0,0)", x.put(0, 0, 0, 0), NULL);
        x.cup(0, 3);
        due(29, "put(0,0,3,most)", x.put(0, 0, 3, MOST), NOTHING);
        due(29, "put(0,0,0,9999)", x.put(0, 0, 0, 9999), 1);
        due(29, "put(0,0,1,1)", x.put(0, 0, 1, 1), 2);
        due(29, "put(0,1,2,99)", x.put(0, 1, 2, 99), 3);
        due(29, "put(0,1,2,0)", x.put(0, 1, 2, 0), ROOM);
        due(29, "put(0,1,3,0)", x.put(0, 1, 3, 0), NOTHING);
        due(29, "take(0,0,1)", x.take(0, 0, 1), 1);
        due(29, "take(0,0,0)", x.take(0, 0, 0), 59999);
        due(29, "take(0,0,2)", x.take(0, 0, 2), 99);
    }

    private static void promise30() {
        DoorTears x = told("open 1;wife 0 0;man 0 0");
        due(30, "take(3,9,9)", x.take(3, 9, 9), UNKNOWN);
        due(30, "take(0,2,0)", x.take(0, 2, 0), OUTSIDE);
        due(30, "take(0,-1,0)", x.take(0, -1, 0), OUTSIDE);
        due(30, "take(0,0,3)", x.take(0, 0, 3), OUTSIDE);
        due(30, "take(0,0,-1)", x.take(0, 0, -1), OUTSIDE);
        due(30, "take(0,0,0)", x.take(0, 0, 0), NULL);
        x.cup(0, 9);
        due(30, "take(0,0,0)", x.take(0, 0, 0), EMPTY);
        for (int what = 0; what < 3; what++) {
            x.put(0, 1, what, 1);
        }
        due(30, "take(0,0,1)", x.take(0, 0, 1), CAST);
        due(30, "take(0,0,2)", x.take(0, 0, 2), CAST);
        due(30, "take(0,1,0)", x.take(0, 1, 0), CAST);
        due(30, "take(0,1,1)", x.take(0, 1, 1), CAST);
        due(30, "count(8)", x.count(8), 3);
        due(30, "take(0,1,2)", x.take(0, 1, 2), 1);
        due(30, "take(0,1,0)", x.take(0, 1, 0), CAST);
        due(30, "take(0,1,1)", x.take(0, 1, 1), 1);
        due(30, "take(0,0,0)", x.take(0, 0, 0), 50001);
        due(30, "take(0,1,0)", x.take(0, 1, 0), EMPTY);
        x.put(0, 0, 0, -9999);
        due(30, "take(0,1,0)", x.take(0, 1, 0), 40001);
        // round the ring more than once, from both ends
        for (int round = 0; round < 4; round++) {
            for (int i = 0; i < 9; i++) {
                due(30, "put", x.put(0, round & 1, 0, i), i + 1);
            }
            due(30, "put", x.put(0, 0, 0, 1), ROOM);
            for (int i = 0; i < 7; i++) {
                due(30, "take", x.take(0, round < 2 ? round & 1 ^ 1 : round & 1, 0), 50000 + (round < 2 ? i : 8 - i));
            }
            x.take(0, 0, 0);
            x.take(0, 0, 0);
        }
    }

    private static void promise31() {
        DoorTears x = new DoorTears();
        due(31, "turn(3,100)", x.turn(3, 100), UNKNOWN);
        due(31, "turn(0,100)", x.turn(0, 100), OUTSIDE);
        due(31, "turn(0,-1)", x.turn(0, -1), OUTSIDE);
        due(31, "turn(0,0)", x.turn(0, 0), NULL);
        x.cup(0, 4);
        due(31, "turn(0,0)", x.turn(0, 0), 0);
        due(31, "turn(0,1)", x.turn(0, 1), EMPTY);
        x.put(0, 1, 0, 1);
        x.put(0, 1, 0, 2);
        x.put(0, 1, 2, 3);
        due(31, "turn(0,1)", x.turn(0, 1), 3);
        due(31, "take(0,1,0)", x.take(0, 1, 0), 50001);
        x.put(0, 1, 0, 1);
        due(31, "turn(0,98)", x.turn(0, 98), 3);
        due(31, "take(0,0,0)", x.take(0, 0, 0), 50001);
        due(31, "take(0,0,0)", x.take(0, 0, 0), 50002);
        due(31, "turn(0,99)", x.turn(0, 99), 1);
        due(31, "take(0,0,2)", x.take(0, 0, 2), 3);
    }

    private static void promise32() {
        DoorTears x = new DoorTears();
        due(32, "pour(0,3)", x.pour(0, 3), UNKNOWN);
        due(32, "pour(-1,0)", x.pour(-1, 0), UNKNOWN);
        due(32, "pour(1,1)", x.pour(1, 1), UNKNOWN);
        x.cup(0, 3);
        due(32, "pour(0,1)", x.pour(0, 1), NULL);
        due(32, "pour(1,0)", x.pour(1, 0), NULL);
        x.cup(1, 3);
        due(32, "pour(0,1)", x.pour(0, 1), 0);
        x.put(0, 1, 0, 1);
        x.put(0, 1, 2, 2);
        x.put(1, 1, 0, 8);
        x.put(1, 1, 0, 9);
        due(32, "pour(0,1)", x.pour(0, 1), ROOM);
        due(32, "count(8)", x.count(8), 4);
        due(32, "take(0,0,0)", x.take(0, 0, 0), 50001);
        x.put(0, 0, 0, 1);
        x.take(1, 1, 0);
        due(32, "pour(0,1)", x.pour(0, 1), 3);
        due(32, "take(0,0,0)", x.take(0, 0, 0), EMPTY);
        due(32, "pour(0,1)", x.pour(0, 1), 3);
        due(32, "take(1,0,0)", x.take(1, 0, 0), 50008);
        due(32, "take(1,0,0)", x.take(1, 0, 0), 50001);
        due(32, "take(1,0,2)", x.take(1, 0, 2), 2);
    }

    private static void promise33and34() {
        DoorTears x = told("open 1;wife 0 0;man 0 0");
        due(33, "like(0,3)", x.like(0, 3), UNKNOWN);
        due(33, "like(-1,0)", x.like(-1, 0), UNKNOWN);
        due(33, "like(0,0)", x.like(0, 0), NULL);
        x.cup(0, 3);
        due(33, "like(0,1)", x.like(0, 1), NULL);
        due(33, "like(1,0)", x.like(1, 0), NULL);
        x.cup(1, 5);
        due(33, "like(0,1)", x.like(0, 1), 1);
        x.put(0, 1, 0, 1);
        due(33, "like(0,1)", x.like(0, 1), 0);
        x.put(1, 1, 1, 1);
        due(33, "a number is no person", x.like(0, 1), 0);
        x.take(1, 0, 1);
        x.put(1, 1, 2, 1);
        due(33, "a number is no tear", x.like(0, 1), 0);
        x.take(1, 0, 2);
        x.put(1, 0, 0, 1);
        due(33, "like(0,1)", x.like(0, 1), 1);
        x.put(0, 1, 1, 0);
        x.put(1, 0, 1, 0);
        due(33, "another order", x.like(0, 1), 0);
        x.turn(1, 1);
        due(33, "like(1,0)", x.like(1, 0), 1);
        x.take(1, 1, 1);
        x.put(1, 1, 1, 1);
        due(33, "another person", x.like(1, 0), 0);
        due(34, "drop(3)", x.drop(3), UNKNOWN);
        due(34, "drop(-1)", x.drop(-1), UNKNOWN);
        due(34, "drop(2)", x.drop(2), NULL);
        due(34, "drop(0)", x.drop(0), 2);
        due(34, "drop(0)", x.drop(0), NULL);
        due(34, "count(8)", x.count(8), 2);
        due(34, "cup(0,2)", x.cup(0, 2), 2);
        due(34, "take(0,0,0)", x.take(0, 0, 0), EMPTY);
    }

    private static void promise35() {
        DoorTears x = told(FULL_LANE);
        due(35, "count(4)", x.count(4), 0b11111);
        x.seen(1, 0, 3);
        x.cup(0, 3);
        x.cup(2, 3);
        x.put(0, 0, 0, 1);
        x.put(2, 0, 0, 1);
        x.put(2, 0, 1, 5);
        x.door(2);
        x.door(2);
        x.evening(1);
        write(x, "lane");
        int[] dues = {7, 6, 1, 0b1011011, 0b100000, 31, 4, 1, 3, 3, 4};
        for (int what = 0; what <= 10; what++) {
            due(35, "count(" + what + ")", x.count(what), dues[what]);
        }
        due(35, "count(11)", x.count(11), OUTSIDE);
        due(35, "count(-1)", x.count(-1), OUTSIDE);
        due(35, "count(most)", x.count(MOST), OUTSIDE);
    }

    public static void main(String[] args) {
        promise1();
        promise2();
        promise3();
        promise4();
        promise5();
        promise6();
        promise7();
        promise8();
        promise9();
        promise10();
        promise11();
        promise12();
        promise13();
        promise14and15();
        promise16to19();
        goals();
        promise20();
        promise21();
        promise22();
        promise23();
        promise24to27();
        promise28();
        promise29();
        promise30();
        promise31();
        promise32();
        promise33and34();
        promise35();
        System.out.println(wrong == 0 ? made + " answers are as due" : wrong + " answers are not as due");
        if (wrong != 0) {
            System.exit(1);
        }
    }
}
