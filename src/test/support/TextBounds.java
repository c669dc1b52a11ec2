import java.util.ArrayList;
import java.util.List;

/** Terms (THE TEXT) and promises 2 to 5: letters, clauses, tokens, bounds of numbers, the end. */
final class TextBounds {
    private static final String[] KINDS = {"wife", "man", "girl", "hard", "worn"};
    private static final String SEVEN = "open 0;open 1;open 2;open 3;open 4;shut 0;shut 1";
    private static final String SIX = "open 1" + ";wife 0 1".repeat(6);

    private final Runs runs;

    TextBounds(Runs runs) {
        this.runs = runs;
    }

    void all() {
        letters();
        lettersAtMost();
        erased();
        clausesAtMost();
        words();
        rooms();
        kitchensAtMost();
        homes();
        griefs();
        peopleAtMost();
        fallenOut();
        anyLetter();
        digits();
        blanks();
        tooSoon();
        inTheirOrder();
        earlierTexts();
        behindThemAll();
        refusedText();
    }

    private void letters() {
        runs.run("2: a letter (its number, 0 .. 255)", """
            write(-1) = OUTSIDE
            write(256) = OUTSIDE
            write(LEAST) = OUTSIDE
            write(MOST) = OUTSIDE
            count(10) = 0
            write(0) = 1
            write(255) = 2
            write(-1) = OUTSIDE
            write(256) = OUTSIDE
            write(1) = 3
            write(254) = 4
            count(10) = 4
            """);
    }

    private void lettersAtMost() {
        String letters196 = "lane" + " ".repeat(192);
        runs.play("Terms: a row of letters, 200 at most", List.of("write " + letters196, "write(32) = 197",
                "write(32) = 198", "write(32) = 199", "write(59) = 200", "fault() = 200", "write(108) = FULL",
                "count(10) = 200", "fault() = 200", "erase() = 200", "write(32) = 1"));
        runs.play("2: what is refused as FULL is not written", List.of("write " + letters196 + "    ",
                "count(10) = 200", "write(59) = FULL", "write(0) = FULL", "write(255) = FULL", "count(10) = 200",
                "fault() = NONE", "lane() = 1", "count(10) = 0", "write(32) = 1"));
        runs.play("2: of OUTSIDE and FULL the first", List.of("write " + letters196 + "    ", "write(-1) = OUTSIDE",
                "write(256) = OUTSIDE", "write(MOST) = OUTSIDE"));
        String last = "lane" + " ".repeat(190) + "open 4";
        runs.fault("4: a fault in a full text", "", last, 194);
        runs.fault("4: a full text whose last letter counts", "", "lane;" + " ".repeat(189) + "open 4", -1);
        runs.fault("4: a full text whose last letter is wrong", "", "lane;" + " ".repeat(189) + "open 5", 199);
        runs.fault("4: a full text that ends too soon", "", "lane;" + " ".repeat(191) + "open", 200);
        runs.fault("4: 200 blanks", "", " ".repeat(200), 200);
    }

    private void erased() {
        runs.run("3: the text is empty: how many letters it had", """
            erase() = 0
            write(120) = 1
            erase() = 1
            erase() = 0
            count(10) = 0
            write lane
            erase() = 4
            fault() = 0
            """);
        runs.run("3: nothing else than the text is erased", """
            tell open 1;wife 0 7
            door(0) = 0
            keep(1) = 0
            seen(1, 0, 3) = 1
            cup(2, 4) = 4
            put(2, 0, 2, 9) = 1
            write open 1
            erase() = 6
            count(0) = 1
            count(1) = 1
            count(3) = 0
            count(7) = 1
            count(8) = 1
            count(9) = 1
            back(1) = 0
            count(3) = 0
            """);
        runs.run("5: the text is empty then, so that nothing is left to erase", """
            write open 1
            lane() = 1
            erase() = 0
            """);
    }

    private void clausesAtMost() {
        for (int n : new int[] {1, 2, 23, 24}) {
            String text = "lane;".repeat(n - 1) + "lane";
            runs.play("Terms: clauses, 24 at most", List.of("write " + text, "fault() = NONE", "lane() = " + n));
        }
        String most = "lane;".repeat(23) + "lane";
        // only the end can stand behind the 24th
        runs.fault("Terms: clauses, 24 at most", "", most + ";lane", 119);
        runs.fault("Terms: clauses, 24 at most", "", most + " ; lane", 120);
        runs.fault("Terms: clauses, 24 at most", "", most + ";", 119);
        runs.fault("Terms: clauses, 24 at most", "", most + "  ", -1);
        runs.fault("Terms: clauses, 24 at most", "", most + " lane", 120);
        runs.fault("Terms: of a fault in the 24th and a 25th the first", "", "lane;".repeat(23) + "open 5;lane", 120);
        runs.play("Terms: clauses of earlier texts do not count", List.of("tell " + most, "write lane;open 1",
                "fault() = NONE", "lane() = 2", "count(0) = 1"));
    }

    private void words() {
        String[] stand = {"lane", "open 1", "shut 1", "wife 0 1", "man 0 1", "girl 0 1", "hard 0 1", "worn 0 1",
            "fell 0 1"};
        String ahead = "open 1;wife 0 1;wife 0 1;";
        for (String clause : stand) {
            int length = clause.indexOf(' ') < 0 ? clause.length() : clause.indexOf(' ');
            String word = clause.substring(0, length);
            String rest = clause.substring(length);
            String title = "Terms: " + word + ", as written here";
            runs.fault(title, "", ahead + clause, -1);
            for (int i = 1; i < length; i++) {
                runs.fault(title, "", ahead + word.substring(0, i) + rest, 25);
                runs.fault(title, "", ahead + word.substring(i) + rest, 25);
            }
            for (int i = 0; i < length; i++) {
                char other = word.charAt(i) == 'z' ? 'a' : (char) (word.charAt(i) + 1);
                String head = ahead + word.substring(0, i);
                runs.fault(title, "", head + other + word.substring(i + 1) + rest, 25);
                runs.fault(title, "", head + Character.toUpperCase(word.charAt(i)) + word.substring(i + 1) + rest, 25);
            }
            runs.fault(title, "", ahead + word + "a" + rest, 25);
            runs.fault(title, "", ahead + word + "z" + rest, 25);
            runs.fault(title, "", ahead + "s" + word + rest, 25);
            runs.fault(title, "", ahead + word + word + rest, 25);
            runs.fault(title, "", ahead + word + " " + clause, 25 + length + 1);
            runs.fault(title, "", ahead + word + "." + rest, 25 + length);
            runs.fault(title, "", ahead + clause + ".", 25 + clause.length());
            runs.fault(title, "", ahead + clause + " 1", 25 + clause.length() + 1);
            runs.fault(title, "", ahead + clause + " lane", 25 + clause.length() + 1);
            runs.fault(title, "", ahead + clause + ";;lane", 25 + clause.length() + 1);
            runs.fault(title, "", ahead + clause + ";", 25 + clause.length() + 1);
        }
        runs.fault("Terms: a clause begins with its word", "", "1", 0);
        runs.fault("Terms: a clause begins with its word", "", ";lane", 0);
        runs.fault("Terms: a clause begins with its word", "", "lane;1", 5);
        runs.fault("Terms: a clause begins with its word", "", "person 0 0", 0);
    }

    private void rooms() {
        for (String word : new String[] {"open", "shut"}) {
            for (int room = 0; room <= 99; room++) {
                int place = room <= 4 ? -1 : 5;
                runs.fault("Terms: room R, 0 to 4", "", word + " " + room, place);
                if (room < 10) {
                    runs.fault("Terms: room R, 0 to 4", "", word + " 0" + room, place);
                    runs.fault("Terms: a number of more digits", "", word + " 00" + room, 5);
                }
            }
            runs.fault("Terms: a number of more digits", "", word + " 100", 5);
            runs.fault("Terms: a number of more digits", "", word + " 4294967296", 5);
            runs.fault("Terms: a number of more digits", "", word + " " + "0".repeat(195), 5);
            runs.fault("Terms: a number has no sign", "", word + " -1", 5);
            runs.fault("Terms: a number has no sign", "", word + " +1", 5);
        }
        for (int room = 0; room <= 4; room++) {
            runs.play("Terms: room R, 0 to 4", List.of("tell open " + room + ";shut " + room, "kitchen(0, 1) = " + room,
                    "kitchen(1, 1) = " + room, "kitchen(0, 0) = 1", "kitchen(1, 0) = 0", "kitchen(2, 0) = UNKNOWN"));
        }
    }

    private void kitchensAtMost() {
        for (String word : new String[] {"open", "shut"}) {
            String title = "Terms: an eighth kitchen cannot stand there (at its word)";
            runs.fault(title, "", SEVEN, -1);
            runs.fault(title, "", SEVEN + ";" + word + " 1", SEVEN.length() + 1);
            runs.fault(title, "", SEVEN + ";" + word, SEVEN.length() + 1);
            runs.fault(title, "", SEVEN + ";" + word + " 5", SEVEN.length() + 1);
            runs.fault(title, "", SEVEN + "; " + word + " x", SEVEN.length() + 2);
            runs.fault(title, "", SEVEN + ";lane;" + word + " 4", -1);
            runs.fault(title, "", SEVEN + ";wife 6 0;" + word + " 4", SEVEN.length() + 10);
            runs.fault(title, SEVEN, word + " 1", 0);
            runs.fault(title, SEVEN, "lane;" + word + " 1", -1);
            runs.fault(title, "open 0;open 0;open 0", "open 0;open 0;open 0;" + word + " 1", -1);
            runs.fault(title, "open 0;open 0;open 0", "open 0;open 0;open 0;open 0;" + word + " 1", 28);
        }
        runs.run("Terms: a seventh kitchen is numbered 6", "tell " + SEVEN + """

            count(0) = 7
            count(3) = 31
            kitchen(6, 1) = 1
            kitchen(6, 0) = 0
            kitchen(7, 1) = UNKNOWN
            """);
    }

    private void homes() {
        for (String word : KINDS) {
            int at = word.length() + 1;
            String title = "Terms: a home kitchen, told ahead";
            runs.fault(title, "", word + " 0 0", at);
            for (int kitchens = 1; kitchens <= 7; kitchens++) {
                String ahead = ";open 1".repeat(kitchens).substring(1);
                runs.fault(title, ahead, word + " " + (kitchens - 1) + " 0", -1);
                runs.fault(title, ahead, word + " 0" + (kitchens - 1) + " 0", -1);
                runs.fault(title, ahead, word + " " + kitchens + " 0", at);
                runs.fault(title, ahead, word + " 0" + kitchens + " 0", at);
                runs.fault(title, ahead, word + " 00" + (kitchens - 1) + " 0", at);
                runs.fault(title, "", ahead + ";" + word + " " + (kitchens - 1) + " 0", -1);
                runs.fault(title, "", ahead + ";" + word + " " + kitchens + " 0", ahead.length() + 1 + at);
            }
            runs.fault(title, "open 1", word + " 1 0;open 1", at);
            runs.fault(title, "open 1;open 1", "lane;open 1;" + word + " 1 0", 12 + at);
            runs.fault(title, SEVEN, word + " 99 0", at);
            runs.fault(title, SEVEN, word + " 10 0", at);
            runs.fault("Terms: of two faults the first", SEVEN, word + " 7 41", at);
        }
    }

    private void griefs() {
        for (String word : KINDS) {
            int at = word.length() + 3;
            for (int grief = 0; grief <= 99; grief++) {
                runs.fault("Terms: grief G, 0 to 40", "shut 0", word + " 0 " + grief, grief <= 40 ? -1 : at);
            }
            runs.fault("Terms: a number of more digits", "shut 0", word + " 0 040", at);
            runs.fault("Terms: a number of more digits", "shut 0", word + " 0 000", at);
            runs.fault("Terms: a number of more digits", "shut 0", word + " 0 400", at);
            runs.fault("Terms: numbers of 1 or 2 digits", "shut 0", word + " 0 09", -1);
            runs.fault("Terms: numbers of 1 or 2 digits", "shut 0", word + " 00 00", -1);
            for (int grief : new int[] {0, 1, 9, 10, 39, 40}) {
                runs.play("Terms: grief G, 0 to 40", List.of("tell shut 0;" + word + " 0 " + grief,
                        "person(0, 2) = " + grief, "count(5) = " + grief));
            }
        }
    }

    private void peopleAtMost() {
        for (String word : KINDS) {
            String title = "Terms: a seventh person cannot stand there (at its word)";
            runs.fault(title, "", "open 1;" + (word + " 0 1;").repeat(5) + word + " 0 1", -1);
            runs.fault(title, "", SIX + ";" + word + " 0 1", SIX.length() + 1);
            runs.fault(title, "", SIX + ";" + word, SIX.length() + 1);
            runs.fault(title, "", SIX + ";" + word + " 9 99", SIX.length() + 1);
            runs.fault(title, "", SIX + ";lane;open 1;" + word + " 0 1", -1);
            runs.fault(title, SIX, word + " 0 1", 0);
            runs.fault(title, SIX, "lane;open 1;" + word + " 0 1", -1);
            runs.fault(title, SIX, "open 1;" + word + " 1 1", 7);
        }
        runs.fault("Terms: six people and seven kitchens, all told", "", SIX + ";open 1".repeat(6), -1);
        runs.run("Terms: a sixth person is numbered 5", "tell " + SIX + """

            count(1) = 6
            person(5, 2) = 1
            person(6, 2) = UNKNOWN
            """);
    }

    private void fallenOut() {
        String title = "Terms: fell: A and B, unlike, told ahead";
        for (int people = 0; people <= 6; people++) {
            String ahead = "open 1" + ";wife 0 1".repeat(people);
            for (int a = 0; a <= 6; a++) {
                for (int b = 0; b <= 6; b++) {
                    int place = a >= people ? 5 : b >= people || a == b ? 7 : -1;
                    runs.fault(title, ahead, "fell " + a + " " + b, place);
                }
            }
        }
        runs.fault(title, "", "fell 0 1", 5);
        runs.fault(title, SIX, "fell 05 00", -1);
        runs.fault(title, SIX, "fell 005 0", 5);
        runs.fault(title, SIX, "fell 0 005", 7);
        runs.fault(title, SIX, "fell 1 01", 7);
        runs.fault(title, SIX, "fell 1 10", 7);
        runs.fault(title, SIX, "lane;fell 0 1", 10);
        runs.fault(title, "open 1;wife 0 1", "fell 0 1;wife 0 1", 7);
        runs.fault(title, "open 1;wife 0 1", "wife 0 1;fell 0 1", -1);
        runs.fault("Terms: who has fallen out may be told so again", SIX, "fell 0 1;fell 1 0;fell 0 1", -1);
        runs.run("Terms: two have fallen out, each with the other", "tell " + SIX + """
            ;fell 0 5;fell 4 1
            person(0, 3) = 32
            person(5, 3) = 1
            person(1, 3) = 16
            person(4, 3) = 2
            person(2, 3) = 0
            person(3, 3) = 0
            """);
    }

    /** Each letter there is, in five places of a text. */
    private void anyLetter() {
        String title = "Terms: a row of small letters, a row of digits, any other letter";
        for (int letter = 0; letter <= 255; letter++) {
            char c = (char) letter;
            boolean small = c >= 'a' && c <= 'z';
            boolean digit = c >= '0' && c <= '9';
            runs.fault(title, "", "lane" + c, c == ' ' ? -1 : c == ';' ? 5 : small ? 0 : 4);
            runs.fault(title, "", c + "lane", c == ' ' ? -1 : 0);
            runs.fault(title, "", "lane" + c + "lane", c == ';' ? -1 : c == ' ' ? 5 : small ? 0 : 4);
            runs.fault(title, "", "open 0" + c, c == ' ' || digit && c <= '4' ? -1 : c == ';' ? 7 : digit ? 5 : 6);
            runs.fault(title, "", "open" + c + "1", c == ' ' || c == '0' ? -1 : small ? 0 : 4);
        }
    }

    private void digits() {
        for (int d = 0; d <= 9; d++) {
            int place = d <= 4 ? -1 : 5;
            runs.fault("Terms: numbers of digits", "", "open " + d, place);
            runs.fault("Terms: numbers of digits", "open 0", "wife 0 " + d, -1);
            runs.fault("Terms: numbers of digits", "open 0", "wife 0 1" + d, -1);
            runs.fault("Terms: numbers of digits", "open 0", "wife 0 4" + d, d == 0 ? -1 : 7);
        }
        runs.run("Terms: two digits are one number", """
            tell open 0;wife 0 10;wife 0 01;wife 0 19;wife 0 30
            person(0, 2) = 10
            person(1, 2) = 1
            person(2, 2) = 19
            person(3, 2) = 30
            """);
        runs.fault("Terms: digits behind digits are one number", "open 0", "wife 00 10", -1);
        runs.fault("Terms: digits behind digits are one number", "open 0", "wife 0010", 5);
        runs.fault("Terms: digits behind digits are one number", "open 0", "wife 01", 5);
        runs.fault("Terms: digits behind digits are one number", "open 0", "wife 00", 7);
        runs.fault("Terms: letters behind digits are another token", "open 0", "wife 0 1a", 8);
        runs.fault("Terms: letters behind digits are another token", "open 0", "wife 0a 1", 6);
    }

    private void blanks() {
        String title = "Terms: blanks between";
        for (String b : new String[] {" ", "  ", " ".repeat(7)}) {
            runs.fault(title, "", b + "open" + b + "1" + b + ";" + b + "wife" + b + "0" + b + "40" + b, -1);
            runs.fault(title, "", b + "open" + b + "5", 2 * b.length() + 4);
            runs.fault(title, "", "open 1" + b + "1", 6 + b.length());
            runs.fault(title, "", "op" + b + "en 1", 0);
            runs.fault(title, "", "open 1;wife 0 1" + b + "2", 15 + b.length());
            runs.fault(title, "", "lane" + b, -1);
            runs.fault(title, "", "lane;" + b, 5 + b.length());
            runs.fault(title, "", "lane;" + b + ";", 5 + b.length());
        }
        runs.fault(title, "", "open1;wife0 1", -1);
    }

    /** A text cut off behind each of its letters. */
    private void tooSoon() {
        String title = "Terms: a fault is at the end, if it comes too soon";
        runs.fault(title, "", "", 0);
        runs.fault(title, "open 1", "", 0);
        String text = "open 1;shut 2;man 1 12;girl 0 3;fell 1 0;lane";
        // by letters, cut off behind it: w a word is cut, e the end comes too soon, s the text stands
        String dues = "wwweese" + "wwweese" + "wweeeesse" + "wwweeeese" + "wwweeeese" + "wwws";
        List<Integer> starts = List.of(0, 7, 14, 23, 32, 41);
        for (int cut = 1; cut <= text.length(); cut++) {
            int word = 0;
            for (int start : starts) {
                word = start < cut ? start : word;
            }
            char due = dues.charAt(cut - 1);
            int place = due == 'w' ? word : due == 'e' ? cut : -1;
            runs.fault(title, "", text.substring(0, cut), place);
            runs.fault(title, "", text.substring(0, cut) + "  ", due == 'e' ? cut + 2 : place);
        }
    }

    private void inTheirOrder() {
        runs.run("Terms: clauses are done in their order", """
            write open 1;wife 0 9;lane;shut 2;open 3;girl 1 4;man 0 5;fell 0 1;open 4
            lane() = 9
            count(0) = 3
            count(1) = 2
            count(3) = 6
            kitchen(0, 1) = 2
            kitchen(1, 1) = 3
            kitchen(2, 1) = 4
            person(0, 0) = 2
            person(0, 1) = 1
            person(1, 0) = 1
            person(1, 1) = 0
            person(1, 3) = 1
            """);
        runs.run("Terms: lane: all as at first", """
            write open 1;wife 0 9;man 0 9;fell 0 1;lane
            lane() = 5
            count(0) = 0
            count(1) = 0
            count(2) = 0
            count(3) = 0
            count(5) = 0
            kitchen(0, 0) = UNKNOWN
            person(0, 0) = UNKNOWN
            tell shut 0;wife 0 1;man 0 2
            count(3) = 0
            person(0, 3) = 0
            person(1, 3) = 0
            """);
        runs.run("5: how many there were", """
            write open 1
            lane() = 1
            write open 1 ; wife 1 0;fell 0 1
            lane() = NOT
            erase() = 26
            write open 1 ; wife 1 0
            lane() = 2
            """);
    }

    private void earlierTexts() {
        runs.run("Terms: what earlier texts told stays as it was told", """
            tell open 1;wife 0 7;man 0 9;fell 0 1
            tell shut 2;girl 1 3
            tell fell 2 0
            count(0) = 2
            count(1) = 3
            count(3) = 1
            kitchen(0, 1) = 1
            kitchen(1, 1) = 2
            person(0, 2) = 7
            person(1, 2) = 9
            person(2, 1) = 1
            person(0, 3) = 6
            person(1, 3) = 1
            person(2, 3) = 1
            """);
        runs.run("Terms: behind them all is as told, not as it was done", """
            tell open 1;open 1;wife 0 7;man 1 9;fell 0 1
            door(1) = 0
            grieve(1, 40) = 40
            peace(1, 0) = 0
            evening(3) = 3
            tell open 4
            count(2) = 0
            count(3) = 7
            person(0, 2) = 7
            person(1, 2) = 9
            person(0, 3) = 2
            person(1, 3) = 1
            """);
        runs.run("Terms: a text that was refused told nothing", """
            tell open 1
            write open 2;wife 1 8;open 9
            lane() = NOT
            erase() = 22
            tell shut 3
            count(0) = 2
            count(1) = 0
            kitchen(1, 1) = 3
            """);
        runs.run("Terms: a text that was only looked at told nothing", """
            tell open 1
            write lane;open 2;open 2;wife 1 8
            fault() = NONE
            count(0) = 1
            count(1) = 0
            erase() = 27
            tell wife 0 3
            count(0) = 1
            kitchen(0, 1) = 1
            """);
    }

    private void behindThemAll() {
        List<String> busy = new ArrayList<>(List.of("tell open 4;open 4;wife 0 30;wife 0 20", "evening(4) = 4",
                "count(6) = 7", "door(0) = 0", "keep(0) = 4", "keep(1) = 4", "seen(1, 0, 3) = 1", "seen(2, 0, 4) = 2",
                "cup(0, 2) = 2", "cup(1, 0) = 0", "cup(2, 9) = 9", "put(2, 0, 0, 5) = 1", "count(9) = 2",
                "write open 0", "lane() = 1"));
        List<String> sentences = List.of(
                "luck is 0|count(6) = 0|kitchen(0, 2) = 0|kitchen(1, 2) = 0|luck(1, 0) = 0",
                "it is evening 0|count(2) = 0|evening(1) = 1",
                "nothing is seen|count(7) = 0|kinds() = 31|forget() = 0",
                "nothing is kept|back(0) = NOT|back(1) = NOT",
                "nothing can be undone|count(9) = 0|undo() = NOT",
                "cups are all missing|count(8) = 0|drop(0) = NULL|drop(1) = NULL|drop(2) = NULL|put(2, 0, 0, 1) = NULL",
                "the text is empty|count(10) = 0|erase() = 0|fault() = 0|lane() = NOT");
        for (String sentence : sentences) {
            String[] parts = sentence.split("\\|");
            List<String> lines = new ArrayList<>(busy);
            for (int i = 1; i < parts.length; i++) {
                lines.add(parts[i]);
            }
            runs.play("Terms: behind them " + parts[0], lines);
        }
    }

    private void refusedText() {
        runs.run("5: NOT: it has a fault, and nothing changes", """
            tell open 4;open 4;wife 0 30;wife 1 20;fell 0 1
            evening(4) = 4
            door(0) = 0
            keep(0) = 4
            peace(0, 1) = 0
            keep(1) = 4
            seen(1, 0, 3) = 1
            cup(0, 2) = 2
            put(0, 0, 0, 5) = 1
            lane() = NOT
            write lane;
            lane() = NOT
            write open 5
            fault() = 10
            lane() = NOT
            count(2) = 4
            count(7) = 1
            count(8) = 1
            count(9) = 3
            count(10) = 11
            back(0) = 4
            person(0, 3) = 2
            """);
        runs.run("5: a fault mended by what is written on", """
            write open
            lane() = NOT
            write  1;wife 0
            lane() = NOT
            write  40
            fault() = NONE
            lane() = 2
            person(0, 2) = 40
            """);
    }
}
