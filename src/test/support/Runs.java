import java.util.ArrayList;
import java.util.Arrays;
import java.util.List;
import java.util.Map;
import java.util.Set;
import java.util.TreeMap;
import java.util.TreeSet;
import java.util.regex.Matcher;
import java.util.regex.Pattern;

/**
 * Plays runs of calls on new objects, told line by line, each run for a sentence of the document:
 * "tell .." is written and told, "write .." only written, "door(0) = 1" is a call with the answer that is due, and
 * behind "door(0)" alone any answer may come that refuses nothing.
 * Behind every call that is refused, or that only asks, all that can be seen must be as if it had not been made.
 */
final class Runs {
    private static final Map<String, Integer> NAMES = Map.ofEntries(
            Map.entry("NONE", -1), Map.entry("UNKNOWN", -2), Map.entry("OUTSIDE", -3), Map.entry("NOT", -4),
            Map.entry("FULL", -5), Map.entry("NULL", -11), Map.entry("NOTHING", -12), Map.entry("EMPTY", -13),
            Map.entry("CAST", -14), Map.entry("ROOM", -15), Map.entry("SIZE", -16),
            Map.entry("LEAST", Integer.MIN_VALUE), Map.entry("MOST", Integer.MAX_VALUE));
    private static final Set<String> ASKING = Set.of("fault", "kitchen", "person", "as", "where", "behind", "luck",
            "field", "doors", "funeral", "hearth", "draught", "kinds", "ask", "like", "count");
    private static final Pattern CALL = Pattern.compile("(\\w+)\\(([^)]*)\\)(?: = (\\S+))?");

    private final Map<String, Set<String>> refusals = new TreeMap<>();
    private final Set<String> promises = new TreeSet<>();
    private int wrong = 0;
    private int made = 0;

    /** A line that is a call: its name, its arguments, and the answer that is due, or null. */
    private record Call(String name, int[] arguments, String due) {
        static Call of(String line) {
            Matcher m = CALL.matcher(line);
            if (!m.matches()) {
                throw new IllegalStateException("no such line: " + line);
            }
            String[] parts = m.group(2).isBlank() ? new String[0] : m.group(2).split(",");
            return new Call(m.group(1), Arrays.stream(parts).mapToInt(p -> number(p.trim())).toArray(), m.group(3));
        }

        boolean mustChangeNothing() {
            return ASKING.contains(name) || due != null && number(due) < 0;
        }
    }

    private static int number(String told) {
        return NAMES.containsKey(told) ? NAMES.get(told) : Integer.parseInt(told);
    }

    void run(String sentence, String block) {
        play(sentence, block.strip().lines().map(String::strip).toList());
    }

    /** What is written behind an earlier text has its fault at a place; NONE is -1, and then it is told. */
    void fault(String sentence, String earlier, String text, int place) {
        List<String> lines = new ArrayList<>();
        if (!earlier.isEmpty()) {
            lines.add("tell " + earlier);
        }
        lines.add("write " + text);
        lines.add("fault() = " + place);
        lines.add(place == -1 ? "lane()" : "lane() = NOT");
        play(sentence, lines);
    }

    void play(String sentence, List<String> lines) {
        promises.addAll(List.of(sentence.replaceFirst(":.*", "").split(", ")));
        Played x = new Played();
        for (int i = 0; i < lines.size(); i++) {
            String line = lines.get(i);
            int answer = perform(x, line);
            if (isText(line)) {
                check(answer >= 0, sentence, line, answer, "told");
            } else {
                look(sentence, lines, i, Call.of(line), answer);
            }
        }
    }

    private void look(String sentence, List<String> lines, int at, Call call, int answer) {
        if (call.due == null) {
            check(answer >= -1, sentence, lines.get(at), answer, "not refused");
            return;
        }
        check(answer == number(call.due), sentence, lines.get(at), answer, call.due);
        if (NAMES.containsKey(call.due)) {
            refusals.computeIfAbsent(call.name, n -> new TreeSet<>()).add(call.due);
        }
        if (call.mustChangeNothing()) {
            for (int part = 0; part < Probes.PARTS; part++) {
                List<Integer> with = Probes.look(played(lines, at + 1), part);
                List<Integer> without = Probes.look(played(lines, at), part);
                if (!with.equals(without)) {
                    check(false, sentence, lines.get(at), answer, "nothing changed (part " + part + ": " + with
                            + " for " + without + ")");
                }
            }
        }
    }

    private static boolean isText(String line) {
        return line.startsWith("tell ") || line.startsWith("write ");
    }

    private static int perform(Played x, String line) {
        if (line.startsWith("tell ")) {
            return x.tell(line.substring(5));
        }
        if (line.startsWith("write ")) {
            x.write(line.substring(6));
            return 0;
        }
        Call call = Call.of(line);
        return x.call(call.name, call.arguments);
    }

    private static Played played(List<String> lines, int to) {
        Played x = new Played();
        for (int i = 0; i < to; i++) {
            perform(x, lines.get(i));
        }
        return x;
    }

    private void check(boolean holds, String sentence, String line, int answer, String due) {
        made++;
        if (!holds) {
            wrong++;
            System.out.println(sentence + ": " + line + " answered " + answer + ", due is " + due);
        }
    }

    /** That a call was refused, or answered NONE, in each way that its promise names. */
    void mustHaveAnswered(String name, String... ways) {
        Set<String> had = refusals.getOrDefault(name, Set.of());
        for (String way : ways) {
            check(had.contains(way), "promise of " + name, "no run has the answer " + way, 0, way);
        }
    }

    void mustHaveRunsFor(int promise) {
        check(promises.contains("" + promise), "promise " + promise, "no run is for it", 0, "a run");
    }

    int wrong() {
        return wrong;
    }

    int made() {
        return made;
    }
}
