import java.io.BufferedReader;
import java.io.IOException;
import java.io.InputStreamReader;
import java.nio.file.Files;
import java.nio.file.Path;
import java.util.ArrayList;
import java.util.List;
import java.util.concurrent.ExecutorService;
import java.util.concurrent.Executors;
import java.util.concurrent.Future;
import java.util.concurrent.TimeUnit;
import java.util.regex.Matcher;
import java.util.regex.Pattern;
import javax.tools.JavaCompiler;
import javax.tools.ToolProvider;

/**
 * Breaks the class in one place at a time, and tells the places that a test does not notice.
 * Run from the project's root: java src/test/tools/Mutants.java CLASSES TEST, where CLASSES holds the compiled test; with
 * a third word only refusals change places.
 */
public final class Mutants {
    private static final Path SOURCE = Path.of("src/main/java/DoorTears.java");
    private static final int SECONDS = 60;

    /** What is looked for in a line, and what takes its place. */
    private static final String[][] CHANGES = {
        {" < ", " <= "}, {" < ", " > "}, {" <= ", " < "}, {" > ", " >= "}, {" >= ", " > "}, {" == ", " != "},
        {" != ", " == "}, {" && ", " || "}, {" \\|\\| ", " && "}, {" \\+ ", " - "}, {" - ", " + "}, {"\\+\\+", "--"},
        {"--", "++"}, {" \\+= ", " -= "}, {" \\^= ", " |= "}, {" \\|= ", " = "}, {" &= ", " = "}, {" \\* ", " + "},
        {"\\btrue\\b", "false"}, {"\\bfalse\\b", "true"}, {"\\(!", "("}, {" !", " "}, {"\\bmin\\(", "max("},
        {"\\bmax\\(", "min("}, {"\\breturn NONE;", "return 0;"}, {"\\breturn UNKNOWN;", "return OUTSIDE;"},
        {"\\breturn OUTSIDE;", "return NOT;"}, {"\\breturn NOT;", "return FULL;"}, {"\\breturn FULL;", "return NOT;"},
        {"\\breturn NULL;", "return EMPTY;"}, {"\\breturn NOTHING;", "return ROOM;"},
        {"\\breturn EMPTY;", "return CAST;"}, {"\\breturn CAST;", "return EMPTY;"}, {"\\breturn ROOM;", "return FULL;"},
        {"\\breturn SIZE;", "return OUTSIDE;"}, {"(?<=\\bif )\\(.*\\)(?= \\{)", "(false)"}};
    private static final Pattern NUMBER = Pattern.compile("(?<![\\w.])\\d+\\b");
    private static final Pattern STATEMENT = Pattern.compile("^\\s+(?!return|final|static|private|int |boolean |Lane |Cup |case|break)"
            + "[\\w\\[\\]. ]+(\\(.*\\)| [-+|&^]?= .*|\\+\\+|--);$");

    /** From one line up to another, others stand. */
    private record Mutant(int from, int to, List<String> text) {
        Mutant(int line, String text) {
            this(line, line + 1, List.of(text));
        }

        List<String> in(List<String> lines) {
            List<String> broken = new ArrayList<>(lines.subList(0, from));
            broken.addAll(text);
            broken.addAll(lines.subList(to, lines.size()));
            return broken;
        }
    }

    /** Two refusals, one behind the other, change places. */
    private static List<Mutant> swapped(List<String> lines) {
        List<Mutant> all = new ArrayList<>();
        for (int i = 0; i + 6 <= lines.size(); i++) {
            if (isRefusal(lines, i) && isRefusal(lines, i + 3)) {
                List<String> text = new ArrayList<>(lines.subList(i + 3, i + 6));
                text.addAll(lines.subList(i, i + 3));
                all.add(new Mutant(i, i + 6, text));
            }
        }
        return all;
    }

    private static boolean isRefusal(List<String> lines, int at) {
        return lines.get(at).matches("        if \\(.*\\) \\{") && lines.get(at + 1).matches(" {12}return [A-Z]+;")
                && lines.get(at + 2).equals("        }");
    }

    private static List<Mutant> of(List<String> lines) {
        List<Mutant> all = new ArrayList<>();
        for (int i = 0; i < lines.size(); i++) {
            String line = lines.get(i);
            String bare = line.strip();
            if (bare.startsWith("/") || bare.startsWith("*") || bare.startsWith("import")) {
                continue;
            }
            for (String[] change : CHANGES) {
                Matcher m = Pattern.compile(change[0]).matcher(line);
                while (m.find()) {
                    all.add(new Mutant(i, line.substring(0, m.start()) + change[1] + line.substring(m.end())));
                }
            }
            Matcher m = NUMBER.matcher(line);
            while (m.find() && !line.contains("0b")) {
                for (int by = -1; by <= 1; by += 2) {
                    int n = Integer.parseInt(m.group()) + by;
                    all.add(new Mutant(i, line.substring(0, m.start()) + (n < 0 ? "(" + n + ")" : n) + line.substring(m.end())));
                }
            }
            if (STATEMENT.matcher(line).matches()) {
                all.add(new Mutant(i, ""));
            }
        }
        return all;
    }

    /** Whether the test fails, or does not end, with the class so broken; null: it can't be compiled. */
    private static Boolean isNoticed(List<String> lines, Mutant mutant, String classes, String test) throws Exception {
        Path dir = Files.createTempDirectory("mutant");
        try {
            Path file = dir.resolve("DoorTears.java");
            Files.write(file, mutant.in(lines));
            JavaCompiler compiler = ToolProvider.getSystemJavaCompiler();
            if (compiler.run(null, java.io.OutputStream.nullOutputStream(), java.io.OutputStream.nullOutputStream(),
                    "-d", dir.toString(), file.toString()) != 0) {
                return null;
            }
            Process run = new ProcessBuilder("java", "-XX:TieredStopAtLevel=1", "-cp", dir + ":" + classes, test)
                    .redirectErrorStream(true).start();
            Future<?> reading = READERS.submit(() -> stopAtFirstFault(run));
            boolean ended = run.waitFor(SECONDS, TimeUnit.SECONDS);
            run.destroyForcibly().waitFor();
            reading.get();
            return !ended || run.exitValue() != 0;
        } finally {
            try (var files = Files.walk(dir)) {
                files.sorted((a, b) -> b.compareTo(a)).forEach(f -> f.toFile().delete());
            }
        }
    }

    private static final ExecutorService READERS = Executors.newCachedThreadPool();

    private static void stopAtFirstFault(Process run) {
        try (BufferedReader in = new BufferedReader(new InputStreamReader(run.getInputStream()))) {
            String line = in.readLine();
            while (line != null) {
                if (line.contains("due is")) {
                    run.destroyForcibly();
                }
                line = in.readLine();
            }
        } catch (IOException e) {
            // it was stopped
        }
    }

    public static void main(String[] args) throws Exception {
        List<String> lines = Files.readAllLines(SOURCE);
        List<Mutant> all = new ArrayList<>(swapped(lines));
        if (args.length < 3) {
            all.addAll(of(lines));
        }
        ExecutorService workers = Executors.newFixedThreadPool(Runtime.getRuntime().availableProcessors());
        List<Future<Boolean>> noticed = new ArrayList<>();
        for (Mutant mutant : all) {
            noticed.add(workers.submit(() -> isNoticed(lines, mutant, args[0], args[1])));
        }
        int made = 0;
        int missed = 0;
        for (int i = 0; i < all.size(); i++) {
            Boolean is = noticed.get(i).get();
            if (is != null) {
                made++;
                if (!is) {
                    missed++;
                    Mutant m = all.get(i);
                    System.out.println((m.from + 1) + ": " + lines.get(m.from).strip() + "   =>   "
                            + String.join(" ", m.text).strip());
                }
            }
        }
        System.out.println(made + " mutants, " + missed + " not noticed");
        workers.shutdown();
        READERS.shutdown();
    }
}
