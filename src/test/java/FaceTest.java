import java.lang.reflect.Field;
import java.lang.reflect.Method;
import java.lang.reflect.Modifier;
import java.nio.charset.StandardCharsets;
import java.nio.file.Files;
import java.nio.file.Path;
import java.util.ArrayList;
import java.util.Arrays;
import java.util.List;
import java.util.Set;
import java.util.TreeSet;
import java.util.regex.Matcher;
import java.util.regex.Pattern;

/** The public face as the document has it, and the rules of LANGUAGE.md that can be looked up. */
public final class FaceTest {
    private static final Set<String> METHODS = new TreeSet<>(List.of(
            "write 1", "erase 0", "fault 0", "lane 0", "kitchen 2", "person 2", "as 2", "evening 1", "door 1",
            "grieve 2", "peace 2", "undo 0", "keep 1", "back 1", "where 2", "behind 2", "luck 2", "field 1",
            "doors 1", "funeral 1", "hearth 2", "draught 2", "seen 3", "forget 0", "kinds 0", "ask 0", "cup 2",
            "put 4", "take 3", "turn 2", "pour 2", "like 2", "drop 1", "count 1"));
    private static final Set<String> CONSTANTS = new TreeSet<>(List.of(
            "NONE -1", "UNKNOWN -2", "OUTSIDE -3", "NOT -4", "FULL -5", "NULL -11", "NOTHING -12", "EMPTY -13",
            "CAST -14", "ROOM -15", "SIZE -16"));
    private static final List<String> BANNED = List.of(
            "\\bthrow\\b", "\\bthrows\\b", "\\btry\\b", "\\bcatch\\b", "\\bsynchronized\\b", "\\bassert\\b", "->", "::",
            "Exact\\b", "\\bstatic\\s*\\{", "\\bequals\\b", "\\bhashCode\\b", "\\btoString\\b", "^package\\b",
            "\\bThread\\b", "\\bSystem\\.(?!arraycopy\\b)", "\\bMath\\.random\\b", "[^\\x00-\\x7f]");

    private static int wrong = 0;

    private static void check(boolean holds, String what) {
        if (!holds) {
            wrong++;
            System.out.println("not so: " + what);
        }
    }

    private static void face() throws IllegalAccessException {
        check(Modifier.isPublic(DoorTears.class.getModifiers()) && Modifier.isFinal(DoorTears.class.getModifiers()),
                "the class is public and final");
        check(DoorTears.class.getDeclaredConstructors().length == 1 && DoorTears.class.getConstructors().length == 1
                && DoorTears.class.getConstructors()[0].getParameterCount() == 0, "one public constructor");
        Set<String> methods = new TreeSet<>();
        for (Method m : DoorTears.class.getDeclaredMethods()) {
            if (!Modifier.isPrivate(m.getModifiers())) {
                methods.add(m.getName() + " " + m.getParameterCount());
                check(Modifier.isPublic(m.getModifiers()) && !Modifier.isStatic(m.getModifiers())
                        && m.getReturnType() == int.class, m + " is public and answers an int");
                check(Arrays.stream(m.getParameterTypes()).allMatch(t -> t == int.class), m + " takes ints");
            }
        }
        check(methods.equals(METHODS), "the methods are the document's: " + methods);
        Set<String> constants = new TreeSet<>();
        for (Field f : DoorTears.class.getDeclaredFields()) {
            if (!Modifier.isPrivate(f.getModifiers())) {
                check(Modifier.isStatic(f.getModifiers()) && Modifier.isFinal(f.getModifiers())
                        && Modifier.isPublic(f.getModifiers()), f + " is a public constant");
                constants.add(f.getName() + " " + f.getInt(null));
            }
        }
        check(constants.equals(CONSTANTS), "the constants are the document's: " + constants);
    }

    private static void insides() {
        Set<String> publicNames = new TreeSet<>();
        for (String m : METHODS) {
            publicNames.add(m.substring(0, m.indexOf(' ')));
        }
        List<Class<?>> classes = new ArrayList<>(List.of(DoorTears.class.getDeclaredClasses()));
        check(classes.size() <= 11, "at most some twelve classes");
        for (Class<?> c : classes) {
            check(Modifier.isStatic(c.getModifiers()) && !Modifier.isPublic(c.getModifiers())
                    && !Modifier.isProtected(c.getModifiers()), c + " is static, private or package-visible");
        }
        classes.add(DoorTears.class);
        for (Class<?> c : classes) {
            int fields = 0;
            for (Field f : c.getDeclaredFields()) {
                fields += Modifier.isStatic(f.getModifiers()) ? 0 : 1;
                check(!Modifier.isStatic(f.getModifiers()) || Modifier.isFinal(f.getModifiers()), f + " is final");
            }
            check(fields <= 20, c + " has at most some twenty fields");
            for (Method m : c.getDeclaredMethods()) {
                check(m.getParameterCount() <= 7, m + " takes at most seven");
                check(c == DoorTears.class && Modifier.isPublic(m.getModifiers()) || !publicNames.contains(m.getName()),
                        m + " bears no public name");
            }
        }
    }

    private static void source() throws java.io.IOException {
        String all = Files.readString(Path.of("src/main/java/DoorTears.java"), StandardCharsets.ISO_8859_1);
        String code = all.replaceAll("(?s)/\\*.*?\\*/", "").replaceAll("//[^\n]*", "");
        for (String banned : BANNED) {
            Matcher m = Pattern.compile(banned, Pattern.MULTILINE).matcher(code);
            check(!m.find(), "the source has no " + banned);
        }
        Matcher imports = Pattern.compile("^import ([^;]*);", Pattern.MULTILINE).matcher(code);
        while (imports.find()) {
            check(Set.of("java.util.Arrays", "java.util.ArrayList", "java.util.List").contains(imports.group(1)),
                    "import of " + imports.group(1) + " is allowed");
        }
        methodLengths(code);
    }

    private static void methodLengths(String code) {
        String[] lines = code.split("\n", -1);
        for (int i = 0; i < lines.length; i++) {
            Matcher m = Pattern.compile("^( {4}| {8})(\\S.*\\)) \\{$").matcher(lines[i]);
            if (m.matches() && !m.group(2).matches("(if|for|while|switch|\\}).*")) {
                int end = i;
                while (end < lines.length && !lines[end].equals(m.group(1) + "}")) {
                    end++;
                }
                check(end - i <= 60, "a short method: " + m.group(2));
            }
        }
    }

    public static void main(String[] args) throws Exception {
        face();
        insides();
        source();
        System.out.println(wrong == 0 ? "the face and the rules hold" : wrong + " do not hold");
        if (wrong != 0) {
            System.exit(1);
        }
    }
}
