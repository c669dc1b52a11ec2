import java.math.BigInteger;
import java.util.ArrayDeque;
import java.util.ArrayList;
import java.util.Arrays;
import java.util.Comparator;
import java.util.Deque;
import java.util.HashSet;
import java.util.LinkedHashMap;
import java.util.List;
import java.util.Map;
import java.util.Random;
import java.util.Set;
import java.util.regex.Matcher;
import java.util.regex.Pattern;

/**
 * Random runs of calls, answered by the class and by a plain model of the document that is written another
 * way: kinds are classes, texts are told again from their clauses, every order and set is tried.
 */
public final class ModelTest {
    static final int NONE = -1, UNKNOWN = -2, OUTSIDE = -3, NOT = -4, FULL = -5, NULL = -11, NOTHING = -12,
            EMPTY = -13, CAST = -14, ROOM = -15, SIZE = -16;

    abstract static class Person implements Cloneable {
        int home;
        int grief;

        abstract int bears();

        abstract int eases();

        abstract int grows();

        int goes() {
            return 6;
        }

        abstract int kind();

        Person copy() {
            try {
                return (Person) clone();
            } catch (CloneNotSupportedException e) {
                throw new IllegalStateException(e);
            }
        }
    }

    static class Wife extends Person {
        int bears() {
            return 6;
        }

        int eases() {
            return 5;
        }

        int grows() {
            return 2;
        }

        int kind() {
            return 0;
        }
    }

    static class Man extends Wife {
        int bears() {
            return 2 * super.bears();
        }

        int goes() {
            return 1;
        }

        int kind() {
            return 1;
        }
    }

    static class Girl extends Wife {
        int bears() {
            return super.bears() - 3;
        }

        int grows() {
            return super.grows() + 1;
        }

        int kind() {
            return 2;
        }
    }

    static class Hard extends Person {
        int bears() {
            return 20;
        }

        int eases() {
            return 20;
        }

        int grows() {
            return 1;
        }

        int kind() {
            return 3;
        }
    }

    static class Worn extends Hard {
        int bears() {
            return super.bears() / 2;
        }

        int eases() {
            return super.eases() / 4;
        }

        int kind() {
            return 4;
        }
    }

    static final Class<?>[] TREE = {Person.class, Wife.class, Man.class, Girl.class, Hard.class, Worn.class};

    static Person ofKind(String word) {
        switch (word) {
            case "wife": return new Wife();
            case "man": return new Man();
            case "girl": return new Girl();
            case "hard": return new Hard();
            case "worn": return new Worn();
            default: return null;
        }
    }

    static final List<String> KIND_WORDS = List.of("wife", "man", "girl", "hard", "worn");

    static final class Kitchen {
        boolean open;
        int room;
        int luck;

        Kitchen(boolean open, int room, int luck) {
            this.open = open;
            this.room = room;
            this.luck = luck;
        }
    }

    static final class State {
        List<Kitchen> kitchens = new ArrayList<>();
        List<Person> people = new ArrayList<>();
        Set<Set<Integer>> quarrels = new HashSet<>();
        int evening;

        State copy() {
            State s = new State();
            for (Kitchen k : kitchens) {
                s.kitchens.add(new Kitchen(k.open, k.room, k.luck));
            }
            for (Person p : people) {
                s.people.add(p.copy());
            }
            s.quarrels.addAll(quarrels);
            s.evening = evening;
            return s;
        }

        boolean onAt(int p) {
            return people.get(p).grief >= people.get(p).bears();
        }

        int goal(int p, int[] went) {
            Person one = people.get(p);
            List<Integer> able = new ArrayList<>();
            for (int k = 0; k < kitchens.size(); k++) {
                boolean may = kitchens.get(k).open && k != one.home && Math.abs(k - one.home) <= one.goes()
                        && went[k] + 1 <= kitchens.get(k).room;
                for (int o = 0; o < people.size(); o++) {
                    may &= !(quarrels.contains(Set.of(p, o == p ? -1 : o)) && people.get(o).home == k);
                }
                if (may) {
                    able.add(k);
                }
            }
            able.sort(Comparator.comparingInt((Integer k) -> Math.abs(k - one.home)).thenComparingInt(k -> k));
            return able.isEmpty() ? 7 : able.get(0);
        }

        /** Where each went: NONE, a kitchen, 7. */
        int[] pass() {
            int n = people.size();
            boolean[] on = new boolean[n];
            for (int p = 0; p < n; p++) {
                on[p] = onAt(p);
            }
            int[] went = new int[8];
            int[] goals = new int[n];
            Arrays.fill(goals, NONE);
            for (int p = 0; p < n; p++) {
                if (on[p]) {
                    goals[p] = goal(p, went);
                    went[goals[p]]++;
                }
            }
            for (int p = 0; p < n; p++) {
                Person one = people.get(p);
                if (!on[p]) {
                    one.grief = Math.min(40, one.grief + one.grows());
                } else {
                    one.grief = Math.max(0, one.grief - (goals[p] == 7 ? 1 : one.eases()));
                }
            }
            for (int k = 0; k < kitchens.size(); k++) {
                kitchens.get(k).luck += went[k];
            }
            evening++;
            return goals;
        }

        State later(int n) {
            State s = copy();
            for (int i = 0; i < n; i++) {
                s.pass();
            }
            return s;
        }

        int fieldTimes(int n) {
            State s = copy();
            int times = 0;
            for (int i = 0; i < n; i++) {
                for (int goal : s.pass()) {
                    times += goal == 7 ? 1 : 0;
                }
            }
            return times;
        }

        State withOpen(int set) {
            State s = copy();
            for (int k = 0; k < s.kitchens.size(); k++) {
                s.kitchens.get(k).open = (set >> k & 1) == 1;
            }
            return s;
        }

        int openBits() {
            int bits = 0;
            for (int k = 0; k < kitchens.size(); k++) {
                bits |= kitchens.get(k).open ? 1 << k : 0;
            }
            return bits;
        }
    }

    static final class Cup {
        final int places;
        final List<Object> things = new ArrayList<>();

        Cup(int places) {
            this.places = places;
        }
    }

    record Tear(int n) {
    }

    record Guest(int n) {
    }

    record Sight(int g, boolean came, int h) {
    }

    static final class Model {
        StringBuilder text = new StringBuilder();
        List<String[]> told = new ArrayList<>();
        State now = new State();
        Deque<State> past = new ArrayDeque<>();
        State[] kept = new State[2];
        List<Sight> sights = new ArrayList<>();
        Cup[] cups = new Cup[3];

        int write(int letter) {
            if (letter < 0 || letter > 255) {
                return OUTSIDE;
            }
            if (text.length() >= 200) {
                return FULL;
            }
            text.append((char) letter);
            return text.length();
        }

        int erase() {
            int n = text.length();
            text.setLength(0);
            return n;
        }

        static final Pattern TOKEN = Pattern.compile("[a-z]+|[0-9]+|[^ ]", Pattern.DOTALL);

        /** The clauses behind those told; or, if the text has a fault, null and the place in the row. */
        List<String[]> parse(int[] fault) {
            List<String> tokens = new ArrayList<>();
            List<Integer> places = new ArrayList<>();
            Matcher m = TOKEN.matcher(text);
            while (m.find()) {
                tokens.add(m.group());
                places.add(m.start());
            }
            tokens.add("");
            places.add(text.length());
            List<String[]> all = new ArrayList<>(told);
            int i = 0;
            for (int clause = 1;; clause++) {
                State s = telling(all);
                String word = tokens.get(i);
                int[] bounds = boundsOf(word, s);
                if (bounds == null) {
                    fault[0] = places.get(i);
                    return null;
                }
                String[] row = new String[bounds.length + 1];
                row[0] = word;
                i++;
                for (int b = 0; b < bounds.length; b++, i++) {
                    String t = tokens.get(i);
                    boolean twin = word.equals("fell") && b == 1 && t.matches("[0-9]{1,2}")
                            && Integer.parseInt(t) == Integer.parseInt(row[1]);
                    if (!t.matches("[0-9]{1,2}") || Integer.parseInt(t) > bounds[b] || twin) {
                        fault[0] = places.get(i);
                        return null;
                    }
                    row[b + 1] = t;
                }
                all.add(row);
                if (tokens.get(i).isEmpty()) {
                    fault[0] = NONE;
                    fault[1] = clause;
                    return all;
                }
                if (!tokens.get(i).equals(";") || clause == 24) {
                    fault[0] = places.get(i);
                    return null;
                }
                i++;
            }
        }

        static int[] boundsOf(String word, State s) {
            if (word.equals("lane")) {
                return new int[0];
            }
            if (word.equals("open") || word.equals("shut")) {
                return s.kitchens.size() < 7 ? new int[] {4} : null;
            }
            if (word.equals("fell")) {
                return new int[] {s.people.size() - 1, s.people.size() - 1};
            }
            if (KIND_WORDS.contains(word)) {
                return s.people.size() < 6 ? new int[] {s.kitchens.size() - 1, 40} : null;
            }
            return null;
        }

        static State telling(List<String[]> clauses) {
            State s = new State();
            for (String[] c : clauses) {
                if (c[0].equals("lane")) {
                    s = new State();
                } else if (c[0].equals("open") || c[0].equals("shut")) {
                    s.kitchens.add(new Kitchen(c[0].equals("open"), Integer.parseInt(c[1]), 0));
                } else if (c[0].equals("fell")) {
                    s.quarrels.add(Set.of(Integer.parseInt(c[1]), Integer.parseInt(c[2])));
                } else {
                    Person p = ofKind(c[0]);
                    p.home = Integer.parseInt(c[1]);
                    p.grief = Integer.parseInt(c[2]);
                    s.people.add(p);
                }
            }
            return s;
        }

        int fault() {
            int[] fault = new int[2];
            parse(fault);
            return fault[0];
        }

        int lane() {
            int[] fault = new int[2];
            List<String[]> all = parse(fault);
            if (all == null) {
                return NOT;
            }
            told = all;
            now = telling(told);
            text.setLength(0);
            past.clear();
            kept = new State[2];
            sights.clear();
            cups = new Cup[3];
            return fault[1];
        }

        boolean noKitchen(int k) {
            return k < 0 || k >= now.kitchens.size();
        }

        boolean noPerson(int p) {
            return p < 0 || p >= now.people.size();
        }

        int kitchen(int k, int what) {
            if (noKitchen(k)) {
                return UNKNOWN;
            }
            int homes = 0;
            for (int p = 0; p < now.people.size(); p++) {
                homes += now.people.get(p).home == k ? 1 << p : 0;
            }
            int[] all = {now.kitchens.get(k).open ? 1 : 0, now.kitchens.get(k).room, now.kitchens.get(k).luck, homes};
            return what < 0 || what > 3 ? OUTSIDE : all[what];
        }

        int foes(int p) {
            int bits = 0;
            for (Set<Integer> q : now.quarrels) {
                if (q.contains(p)) {
                    for (int o : q) {
                        bits |= o == p ? 0 : 1 << o;
                    }
                }
            }
            return bits;
        }

        int person(int p, int what) {
            if (noPerson(p)) {
                return UNKNOWN;
            }
            Person one = now.people.get(p);
            int[] all = {one.kind(), one.home, one.grief, foes(p), now.onAt(p) ? 1 : 0};
            return what < 0 || what > 4 ? OUTSIDE : all[what];
        }

        int as(int p, int kind) {
            if (noPerson(p)) {
                return UNKNOWN;
            }
            if (kind < 0 || kind > 5) {
                return OUTSIDE;
            }
            return TREE[kind].isInstance(now.people.get(p)) ? now.people.get(p).bears() : NOT;
        }

        void remember() {
            past.push(now.copy());
            if (past.size() > 8) {
                past.removeLast();
            }
        }

        int evening(int n) {
            if (n < 1 || n > 12) {
                return OUTSIDE;
            }
            if (now.evening + n > 999) {
                return FULL;
            }
            remember();
            now = now.later(n);
            return now.evening;
        }

        int door(int k) {
            if (noKitchen(k)) {
                return UNKNOWN;
            }
            remember();
            now.kitchens.get(k).open = !now.kitchens.get(k).open;
            return now.kitchens.get(k).open ? 1 : 0;
        }

        int grieve(int p, int n) {
            if (noPerson(p)) {
                return UNKNOWN;
            }
            if (n < 1 || n > 40) {
                return OUTSIDE;
            }
            if (now.people.get(p).grief == 40) {
                return NOT;
            }
            remember();
            now.people.get(p).grief = Math.min(40, now.people.get(p).grief + n);
            return now.people.get(p).grief;
        }

        int peace(int p, int o) {
            if (noPerson(p) || noPerson(o) || p == o) {
                return UNKNOWN;
            }
            if (!now.quarrels.contains(Set.of(p, o))) {
                return NOT;
            }
            remember();
            now.quarrels.remove(Set.of(p, o));
            return Integer.bitCount(foes(p));
        }

        int undo() {
            if (past.isEmpty()) {
                return NOT;
            }
            now = past.pop();
            return past.size();
        }

        int keep(int k) {
            if (k != 0 && k != 1) {
                return UNKNOWN;
            }
            kept[k] = now.copy();
            return now.evening;
        }

        int back(int k) {
            if (k != 0 && k != 1) {
                return UNKNOWN;
            }
            if (kept[k] == null) {
                return NOT;
            }
            now = kept[k].copy();
            past.clear();
            return now.evening;
        }

        int where(int p, int n) {
            return noPerson(p) ? UNKNOWN : n < 0 || n > 60 ? OUTSIDE : now.later(n).pass()[p];
        }

        int behind(int p, int n) {
            return noPerson(p) ? UNKNOWN : n < 0 || n > 60 ? OUTSIDE : now.later(n).people.get(p).grief;
        }

        int luck(int k, int n) {
            return noKitchen(k) ? UNKNOWN : n < 0 || n > 60 ? OUTSIDE : now.later(n).kitchens.get(k).luck;
        }

        int field(int p) {
            if (noPerson(p)) {
                return UNKNOWN;
            }
            for (int n = 0; n <= 60; n++) {
                if (where(p, n) == 7) {
                    return n;
                }
            }
            return NONE;
        }

        int doors(int n) {
            if (n < 1 || n > 20) {
                return OUTSIDE;
            }
            List<Integer> sets = new ArrayList<>();
            for (int set = 0; set < 1 << now.kitchens.size(); set++) {
                sets.add(set);
            }
            sets.sort(Comparator.comparingInt((Integer s) -> Integer.bitCount(s)).thenComparingInt(s -> s));
            for (int set : sets) {
                if (now.withOpen(set).fieldTimes(n) == 0) {
                    return set;
                }
            }
            return NONE;
        }

        int funeral(int k) {
            if (k < -1 || k > 5) {
                return OUTSIDE;
            }
            int n = now.people.size();
            int codes = 1;
            for (int i = 0; i < n; i++) {
                codes *= n;
            }
            int fewest = 99;
            int[] best = null;
            for (int code = 0; code < codes; code++) {
                int[] order = new int[n];
                int rest = code;
                int used = 0;
                for (int i = n - 1; i >= 0; i--) {
                    order[i] = rest % n;
                    rest /= n;
                    used |= 1 << order[i];
                }
                if (Integer.bitCount(used) == n) {
                    int[] went = new int[8];
                    for (int p : order) {
                        went[now.goal(p, went)]++;
                    }
                    if (went[7] < fewest) {
                        fewest = went[7];
                        best = order;
                    }
                }
            }
            return k == -1 ? fewest : k < n ? best[k] : NONE;
        }

        int hearth(int n, int what) {
            if (n < 1 || n > 20 || what < 0 || what > 1) {
                return OUTSIDE;
            }
            int best = NONE;
            int least = Integer.MAX_VALUE;
            for (int k = 0; k < now.kitchens.size(); k++) {
                State s = now.copy();
                s.kitchens.get(k).room = 4;
                s.kitchens.get(k).open = true;
                int times = s.fieldTimes(n);
                if (times < least) {
                    least = times;
                    best = k;
                }
            }
            return best == NONE || what == 0 ? best : least;
        }

        int draught(int q, int part) {
            if (q < 0 || q > 4 || part < 0 || part > 1) {
                return OUTSIDE;
            }
            BigInteger above = BigInteger.ZERO;
            BigInteger below = BigInteger.valueOf(4).pow(Integer.bitCount(now.openBits()));
            for (int set = 0; set < 128; set++) {
                if ((set | now.openBits()) == now.openBits() && now.withOpen(set).fieldTimes(1) == 0) {
                    int stay = Integer.bitCount(set);
                    int shut = Integer.bitCount(now.openBits()) - stay;
                    above = above.add(BigInteger.valueOf(4 - q).pow(stay).multiply(BigInteger.valueOf(q).pow(shut)));
                }
            }
            BigInteger gcd = above.gcd(below);
            return (part == 0 ? above : below).divide(gcd).intValue();
        }

        int seen(int g, int came, int h) {
            if (g < 0 || g > 40 || came < 0 || came > 1 || h < 0 || h > 40) {
                return OUTSIDE;
            }
            if (sights.size() == 6) {
                return FULL;
            }
            sights.add(new Sight(g, came == 1, h));
            return sights.size();
        }

        int forget() {
            int n = sights.size();
            sights.clear();
            return n;
        }

        static int after(int kind, int g) {
            Person p = ofKind(KIND_WORDS.get(kind));
            return g >= p.bears() ? Math.max(0, g - p.eases()) : Math.min(40, g + p.grows());
        }

        int kinds() {
            int bits = 0;
            for (int kind = 0; kind < 5; kind++) {
                int which = kind;
                Person p = ofKind(KIND_WORDS.get(kind));
                if (sights.stream().allMatch(s -> s.came() == (s.g() >= p.bears()) && s.h() == after(which, s.g()))) {
                    bits |= 1 << kind;
                }
            }
            return bits;
        }

        int ask() {
            int left = kinds();
            int best = NONE;
            int least = Integer.bitCount(left);
            for (int g = 0; g <= 40; g++) {
                Map<Integer, Integer> parts = new LinkedHashMap<>();
                for (int kind = 0; kind < 5; kind++) {
                    if ((left >> kind & 1) == 1) {
                        parts.merge(after(kind, g), 1, Integer::sum);
                    }
                }
                int greatest = parts.values().stream().max(Integer::compare).orElse(0);
                if (greatest < least) {
                    least = greatest;
                    best = g;
                }
            }
            return best;
        }

        int cup(int c, int n) {
            if (c < 0 || c > 2) {
                return UNKNOWN;
            }
            if (n > 9) {
                return OUTSIDE;
            }
            if (n < 0) {
                return SIZE;
            }
            cups[c] = new Cup(n);
            return n;
        }

        int put(int c, int end, int what, int v) {
            if (c < 0 || c > 2 || what == 1 && noPerson(v)) {
                return UNKNOWN;
            }
            if (end < 0 || end > 1 || what < 0 || what > 3 || what == 0 && Math.abs((long) v) > 9999
                    || what == 2 && (v < 0 || v > 99)) {
                return OUTSIDE;
            }
            if (cups[c] == null) {
                return NULL;
            }
            if (what == 3) {
                return NOTHING;
            }
            List<Object> things = cups[c].things;
            if (things.size() == cups[c].places) {
                return ROOM;
            }
            Object thing = what == 0 ? (Object) v : what == 1 ? new Guest(v) : new Tear(v);
            things.add(end == 0 ? 0 : things.size(), thing);
            return things.size();
        }

        int take(int c, int end, int what) {
            if (c < 0 || c > 2) {
                return UNKNOWN;
            }
            if (end < 0 || end > 1 || what < 0 || what > 2) {
                return OUTSIDE;
            }
            if (cups[c] == null) {
                return NULL;
            }
            List<Object> things = cups[c].things;
            if (things.isEmpty()) {
                return EMPTY;
            }
            int place = end == 0 ? 0 : things.size() - 1;
            Object thing = things.get(place);
            int answer = what == 0 && thing instanceof Integer i ? i + 50000
                    : what == 1 && thing instanceof Guest g ? g.n()
                    : what == 2 && thing instanceof Tear t ? t.n() : CAST;
            if (answer != CAST) {
                things.remove(place);
            }
            return answer;
        }

        int turn(int c, int n) {
            if (c < 0 || c > 2) {
                return UNKNOWN;
            }
            if (n < 0 || n > 99) {
                return OUTSIDE;
            }
            if (cups[c] == null) {
                return NULL;
            }
            if (n > 0 && cups[c].things.isEmpty()) {
                return EMPTY;
            }
            java.util.Collections.rotate(cups[c].things, -n);
            return cups[c].things.size();
        }

        int pour(int a, int b) {
            if (a < 0 || a > 2 || b < 0 || b > 2 || a == b) {
                return UNKNOWN;
            }
            if (cups[a] == null || cups[b] == null) {
                return NULL;
            }
            if (cups[a].things.size() > cups[b].places - cups[b].things.size()) {
                return ROOM;
            }
            cups[b].things.addAll(cups[a].things);
            cups[a].things.clear();
            return cups[b].things.size();
        }

        int like(int a, int b) {
            if (a < 0 || a > 2 || b < 0 || b > 2) {
                return UNKNOWN;
            }
            if (cups[a] == null || cups[b] == null) {
                return NULL;
            }
            return cups[a].things.equals(cups[b].things) ? 1 : 0;
        }

        int drop(int c) {
            if (c < 0 || c > 2) {
                return UNKNOWN;
            }
            if (cups[c] == null) {
                return NULL;
            }
            int n = cups[c].things.size();
            cups[c] = null;
            return n;
        }

        int count(int what) {
            int on = 0;
            int grief = 0;
            int luck = 0;
            int held = 0;
            for (int p = 0; p < now.people.size(); p++) {
                on |= now.onAt(p) ? 1 << p : 0;
                grief += now.people.get(p).grief;
            }
            for (Kitchen k : now.kitchens) {
                luck += k.luck;
            }
            for (Cup c : cups) {
                held += c == null ? 0 : c.things.size();
            }
            int[] all = {now.kitchens.size(), now.people.size(), now.evening, now.openBits(), on, grief, luck,
                    sights.size(), held, past.size(), text.length()};
            return what < 0 || what >= all.length ? OUTSIDE : all[what];
        }
    }

    private static int wrong = 0;
    private static long calls = 0;

    private final Random random;
    private final int run;
    private final DoorTears real = new DoorTears();
    private final Model model = new Model();
    private final List<String> log = new ArrayList<>();
    private int made = 0;

    private ModelTest(int run) {
        this.run = run;
        this.random = new Random(run * 7919L + 17);
    }

    private boolean due(String call, int got, int want) {
        made++;
        calls++;
        log.add(call + " -> " + want);
        if (got != want) {
            wrong++;
            System.out.println("run " + run + ": " + call + " answered " + got + ", due is " + want
                    + ", behind " + log);
            return false;
        }
        return true;
    }

    /** Most are inside 0 .. most, some just outside, a few far away. */
    private int arg(int most) {
        int luck = random.nextInt(60);
        if (luck == 0) {
            return -1;
        }
        if (luck == 1) {
            return most + 1;
        }
        if (luck == 2) {
            int[] far = {Integer.MIN_VALUE, Integer.MAX_VALUE, -2, 1 << 20, -50, 32, 64};
            return far[random.nextInt(far.length)];
        }
        return random.nextInt(most + 1);
    }

    private int personArg() {
        return arg(Math.max(0, model.now.people.size() - 1));
    }

    private int kitchenArg() {
        return arg(Math.max(0, model.now.kitchens.size() - 1));
    }

    private String number(int most) {
        int luck = random.nextInt(200);
        if (luck == 0) {
            return String.valueOf(most + 1);
        }
        if (luck == 1) {
            return "00" + random.nextInt(most + 1);
        }
        int n = random.nextInt(most + 1);
        return luck < 6 ? (n < 10 ? "0" : "") + n : String.valueOf(n);
    }

    private String clause(int[] made) {
        int pick = random.nextInt(100);
        int kitchens = Math.max(1, made[0]);
        if (pick < 3) {
            made[0] = 0;
            made[1] = 0;
            return "lane";
        }
        if (made[0] == 0 || pick < 40 && made[0] < 7) {
            made[0]++;
            return (random.nextInt(3) == 0 ? "shut " : "open ") + number(4);
        }
        if (pick < 80 && made[1] < 6) {
            made[1]++;
            int grief = random.nextInt(3) == 0 ? 40 : 15;
            return KIND_WORDS.get(random.nextInt(5)) + " " + number(kitchens - 1) + " " + number(grief);
        }
        if (made[1] > 1) {
            return "fell " + number(made[1] - 1) + " " + number(made[1] - 1);
        }
        return "open " + number(4);
    }

    /** Without a fault, and so many people in so little room that some go to the field. */
    private String crowdedText() {
        int kitchens = 2 + random.nextInt(6);
        int people = 2 + random.nextInt(5);
        StringBuilder s = new StringBuilder("lane");
        for (int k = 0; k < kitchens; k++) {
            s.append(random.nextInt(4) == 0 ? ";shut " : ";open ").append(random.nextInt(random.nextInt(4) == 0 ? 5 : 3));
        }
        for (int p = 0; p < people; p++) {
            s.append(';').append(KIND_WORDS.get(random.nextInt(5))).append(' ').append(random.nextInt(kitchens));
            s.append(' ').append(random.nextInt(random.nextInt(3) == 0 ? 41 : 16));
        }
        for (int i = random.nextInt(6); i > 0; i--) {
            int a = random.nextInt(people);
            s.append(";fell ").append(a).append(' ').append((a + 1 + random.nextInt(people - 1)) % people);
        }
        return s.toString();
    }

    private String randomText() {
        int[] made = {Model.telling(model.told).kitchens.size(), Model.telling(model.told).people.size()};
        StringBuilder s = new StringBuilder();
        if (made[0] > 3 && random.nextInt(2) == 0) {
            s.append("lane;");
            made[0] = 0;
            made[1] = 0;
        }
        int n = 1 + random.nextInt(random.nextInt(10) == 0 ? 30 : 16);
        for (int i = 0; i < n; i++) {
            s.append(i == 0 ? "" : random.nextInt(8) == 0 ? " ; " : ";").append(clause(made));
        }
        for (int i = random.nextInt(10) - 7; i > 0; i--) {
            mutate(s);
        }
        return s.toString();
    }

    private void mutate(StringBuilder s) {
        String signs = "  ;;0149azlne.A" + (char) 233 + (char) 9 + (char) 0 + (char) 255;
        int place = random.nextInt(s.length() + 1);
        char sign = signs.charAt(random.nextInt(signs.length()));
        int how = random.nextInt(4);
        if (how == 0 || place == s.length()) {
            s.insert(place, sign);
        } else if (how == 1) {
            s.setCharAt(place, sign);
        } else if (how == 2) {
            s.deleteCharAt(place);
            if (s.length() == 0) {
                s.append(';');
            }
        } else {
            s.setLength(Math.max(1, place));
        }
    }

    private boolean tell() {
        String text = random.nextInt(3) == 0 ? randomText() : crowdedText();
        boolean ok = random.nextInt(6) == 0 || due("erase()", real.erase(), model.erase());
        for (int i = 0; i < text.length() && made < 480 && ok; i++) {
            int letter = text.charAt(i);
            ok = due("write(" + letter + ")", real.write(letter), model.write(letter));
        }
        ok = ok && due("fault()", real.fault(), model.fault());
        return ok && due("lane()", real.lane(), model.lane());
    }

    private boolean toldOrDone() {
        int p = personArg();
        int o = personArg();
        int t = kitchenArg();
        int b = arg(5);
        switch (random.nextInt(14)) {
            case 0: return due("write(" + (b * 51) + ")", real.write(b * 51), model.write(b * 51));
            case 1: return due("kitchen(" + t + "," + b + ")", real.kitchen(t, b), model.kitchen(t, b));
            case 2: return due("person(" + p + "," + b + ")", real.person(p, b), model.person(p, b));
            case 3: return due("as(" + p + "," + b + ")", real.as(p, b), model.as(p, b));
            case 4: case 5:
                int n = arg(12);
                return due("evening(" + n + ")", real.evening(n), model.evening(n));
            case 6: return due("door(" + t + ")", real.door(t), model.door(t));
            case 7:
                int g = arg(40);
                return due("grieve(" + p + "," + g + ")", real.grieve(p, g), model.grieve(p, g));
            case 8: return due("peace(" + p + "," + o + ")", real.peace(p, o), model.peace(p, o));
            case 9: case 10: return due("undo()", real.undo(), model.undo());
            case 11:
                int k = arg(1);
                return due("keep(" + k + ")", real.keep(k), model.keep(k));
            case 12:
                int l = arg(1);
                return due("back(" + l + ")", real.back(l), model.back(l));
            default:
                int what = arg(10);
                return due("count(" + what + ")", real.count(what), model.count(what));
        }
    }

    private boolean foretold() {
        int p = personArg();
        int t = kitchenArg();
        int n = arg(60);
        int m = arg(20);
        switch (random.nextInt(8)) {
            case 0: return due("where(" + p + "," + n + ")", real.where(p, n), model.where(p, n));
            case 1: return due("behind(" + p + "," + n + ")", real.behind(p, n), model.behind(p, n));
            case 2: return due("luck(" + t + "," + n + ")", real.luck(t, n), model.luck(t, n));
            case 3: return due("field(" + p + ")", real.field(p), model.field(p));
            case 4: return due("doors(" + m + ")", real.doors(m), model.doors(m));
            case 5:
                // the model tries all orders at each call
                if (random.nextInt(4) != 0) {
                    return foretold();
                }
                int k = arg(6) - 1;
                return due("funeral(" + k + ")", real.funeral(k), model.funeral(k));
            case 6:
                int w = arg(1);
                return due("hearth(" + m + "," + w + ")", real.hearth(m, w), model.hearth(m, w));
            default:
                int q = arg(4);
                int part = arg(1);
                return due("draught(" + q + "," + part + ")", real.draught(q, part), model.draught(q, part));
        }
    }

    private boolean whatWasSeen() {
        switch (random.nextInt(5)) {
            case 0: case 1:
                int kind = random.nextInt(5);
                int g = arg(40);
                int came = g >= ofKind(KIND_WORDS.get(kind)).bears() ? 1 : 0;
                int h = Model.after(kind, g);
                if (random.nextInt(6) == 0) {
                    came = arg(1);
                    h = arg(40);
                }
                return due("seen(" + g + "," + came + "," + h + ")", real.seen(g, came, h), model.seen(g, came, h));
            case 2: return random.nextInt(4) != 0 || due("forget()", real.forget(), model.forget());
            case 3: return due("kinds()", real.kinds(), model.kinds());
            default: return due("ask()", real.ask(), model.ask());
        }
    }

    private boolean aboutCups() {
        int a = arg(2);
        int b = arg(2);
        int end = arg(1);
        switch (random.nextInt(11)) {
            case 0:
                int n = arg(9);
                return due("cup(" + a + "," + n + ")", real.cup(a, n), model.cup(a, n));
            case 1: case 2: case 3: case 4:
                int what = arg(3);
                int v = what == 0 ? arg(19998) - 9999 : what == 1 ? arg(6) : arg(99);
                int w = random.nextInt(3) == 0 ? random.nextInt(3) : v;
                return due("put(" + a + "," + end + "," + what + "," + w + ")", real.put(a, end, what, w),
                        model.put(a, end, what, w));
            case 5: case 6:
                int as = arg(2);
                return due("take(" + a + "," + end + "," + as + ")", real.take(a, end, as), model.take(a, end, as));
            case 7:
                int t = arg(99);
                return due("turn(" + a + "," + t + ")", real.turn(a, t), model.turn(a, t));
            case 8: return due("pour(" + a + "," + b + ")", real.pour(a, b), model.pour(a, b));
            case 9: return due("like(" + a + "," + b + ")", real.like(a, b), model.like(a, b));
            default: return random.nextInt(3) != 0 || due("drop(" + a + ")", real.drop(a), model.drop(a));
        }
    }

    private void go() {
        boolean ok = tell();
        int flavour = random.nextInt(4);
        for (int i = 0; i < 2000 && ok && made < 512; i++) {
            int pick = random.nextInt(100);
            if (pick == 0 && made < 300) {
                ok = tell();
            } else if (flavour == 0 && pick < 60) {
                ok = aboutCups();
            } else if (flavour == 1 && pick < 60) {
                ok = foretold();
            } else {
                int part = random.nextInt(4);
                ok = part == 0 ? toldOrDone() : part == 1 ? foretold() : part == 2 ? whatWasSeen() : aboutCups();
            }
        }
    }

    public static void main(String[] args) {
        int runs = args.length > 0 ? Integer.parseInt(args[0]) : 600;
        for (int run = 0; run < runs && wrong < 5; run++) {
            new ModelTest(run).go();
        }
        System.out.println(wrong == 0 ? calls + " calls as the model has them" : wrong + " calls are not as the model has them");
        if (wrong != 0) {
            System.exit(1);
        }
    }
}
