import java.util.Arrays;

/** Kitchens along a lane, and who goes to weep in whose. */
public final class DoorTears {
    public static final int NONE = -1, UNKNOWN = -2, OUTSIDE = -3, NOT = -4, FULL = -5, NULL = -11,
            NOTHING = -12, EMPTY = -13, CAST = -14, ROOM = -15, SIZE = -16;

    private static final int MOST_KITCHENS = 7;
    private static final int MOST_PEOPLE = 6;
    private static final int MOST_ROOM = 4;
    private static final int MOST_GRIEF = 40;
    private static final int MOST_LETTERS = 200;
    private static final int MOST_CLAUSES = 24;
    private static final int MOST_SEEN = 6;
    private static final int MOST_HELD = 9;
    private static final int LAST_EVENING = 999;
    private static final int EVENINGS_AT_ONCE = 12;
    private static final int EVENINGS_AHEAD = 60;
    private static final int EVENINGS_PLANNED = 20;
    private static final int QUARTERS = 4;
    private static final int CUPS = 3;
    private static final int KEEPS = 2;
    private static final int THE_FIELD = 7;
    private static final int NUMBER_SHIFT = 50000;
    private static final int MOST_NUMBER = 9999;
    private static final int MOST_TEAR = 99;
    private static final int MOST_TURNS = 99;

    private final Letters text;
    /** What all texts have told: a new text starts from it, whatever was done since. */
    private final Lane told;
    private final Lane draft;
    private final Reader reader;
    private final Lane now;
    private final Past past;
    private final Lane[] kept;
    private final boolean[] isKept;
    private final Foretelling foretelling;
    private final Funeral mourning;
    private final Sights sights;
    private final Cup[] cups;

    public DoorTears() {
        text = new Letters();
        told = new Lane();
        draft = new Lane();
        reader = new Reader(text, draft);
        now = new Lane();
        past = new Past();
        kept = new Lane[KEEPS];
        isKept = new boolean[KEEPS];
        for (int k = 0; k < KEEPS; k++) {
            kept[k] = new Lane();
        }
        foretelling = new Foretelling();
        mourning = new Funeral();
        sights = new Sights();
        cups = new Cup[CUPS];
        for (int c = 0; c < CUPS; c++) {
            cups[c] = new Cup();
        }
    }

    // ---- what is told

    public int write(int letter) {
        if (letter < 0 || letter > 255) {
            return OUTSIDE;
        }
        if (text.length == MOST_LETTERS) {
            return FULL;
        }
        text.add(letter);
        return text.length;
    }

    public int erase() {
        int had = text.length;
        text.length = 0;
        return had;
    }

    public int fault() {
        return reader.readBehind(told);
    }

    public int lane() {
        if (reader.readBehind(told) != NONE) {
            return NOT;
        }
        told.copyFrom(draft);
        now.copyFrom(told);
        text.length = 0;
        past.clear();
        sights.length = 0;
        for (int k = 0; k < KEEPS; k++) {
            isKept[k] = false;
        }
        for (int c = 0; c < CUPS; c++) {
            cups[c].discard();
        }
        return reader.clauses;
    }

    public int kitchen(int kitchen, int what) {
        if (!now.hasKitchen(kitchen)) {
            return UNKNOWN;
        }
        switch (what) {
            case 0: return now.isOpen(kitchen) ? 1 : 0;
            case 1: return now.room[kitchen];
            case 2: return now.luck[kitchen];
            case 3: return now.livingIn(kitchen);
            default: return OUTSIDE;
        }
    }

    public int person(int person, int what) {
        if (!now.hasPerson(person)) {
            return UNKNOWN;
        }
        switch (what) {
            case 0: return now.kind[person];
            case 1: return now.home[person];
            case 2: return now.grief[person];
            case 3: return now.fell[person];
            case 4: return now.comesOn(person) ? 1 : 0;
            default: return OUTSIDE;
        }
    }

    public int as(int person, int kind) {
        if (!now.hasPerson(person)) {
            return UNKNOWN;
        }
        if (kind < 0 || kind >= Kinds.IN_TREE) {
            return OUTSIDE;
        }
        int own = now.kind[person];
        return Kinds.isUnder(own, kind) ? Kinds.bears(own) : NOT;
    }

    // ---- what is done

    public int evening(int n) {
        if (n < 1 || n > EVENINGS_AT_ONCE) {
            return OUTSIDE;
        }
        if (now.evening + n > LAST_EVENING) {
            return FULL;
        }
        past.remember(now);
        now.passEvenings(n);
        return now.evening;
    }

    public int door(int kitchen) {
        if (!now.hasKitchen(kitchen)) {
            return UNKNOWN;
        }
        past.remember(now);
        now.open ^= 1 << kitchen;
        return now.isOpen(kitchen) ? 1 : 0;
    }

    public int grieve(int person, int n) {
        if (!now.hasPerson(person)) {
            return UNKNOWN;
        }
        if (n < 1 || n > MOST_GRIEF) {
            return OUTSIDE;
        }
        if (now.grief[person] == MOST_GRIEF) {
            return NOT;
        }
        past.remember(now);
        now.grief[person] = Math.min(MOST_GRIEF, now.grief[person] + n);
        return now.grief[person];
    }

    public int peace(int person, int other) {
        if (!now.hasPerson(person) || !now.hasPerson(other) || person == other) {
            return UNKNOWN;
        }
        if ((now.fell[person] & 1 << other) == 0) {
            return NOT;
        }
        past.remember(now);
        now.reconcile(person, other);
        return Integer.bitCount(now.fell[person]);
    }

    public int undo() {
        if (past.length == 0) {
            return NOT;
        }
        past.restoreTo(now);
        return past.length;
    }

    public int keep(int k) {
        if (k < 0 || k >= KEEPS) {
            return UNKNOWN;
        }
        kept[k].copyFrom(now);
        isKept[k] = true;
        return now.evening;
    }

    public int back(int k) {
        if (k < 0 || k >= KEEPS) {
            return UNKNOWN;
        }
        if (!isKept[k]) {
            return NOT;
        }
        now.copyFrom(kept[k]);
        past.clear();
        return now.evening;
    }

    // ---- foretold

    public int where(int person, int n) {
        if (!now.hasPerson(person)) {
            return UNKNOWN;
        }
        if (n < 0 || n > EVENINGS_AHEAD) {
            return OUTSIDE;
        }
        return foretelling.behindEvenings(now, n + 1).place[person];
    }

    public int behind(int person, int n) {
        if (!now.hasPerson(person)) {
            return UNKNOWN;
        }
        if (n < 0 || n > EVENINGS_AHEAD) {
            return OUTSIDE;
        }
        return foretelling.behindEvenings(now, n).grief[person];
    }

    public int luck(int kitchen, int n) {
        if (!now.hasKitchen(kitchen)) {
            return UNKNOWN;
        }
        if (n < 0 || n > EVENINGS_AHEAD) {
            return OUTSIDE;
        }
        return foretelling.behindEvenings(now, n).luck[kitchen];
    }

    public int field(int person) {
        if (!now.hasPerson(person)) {
            return UNKNOWN;
        }
        return foretelling.firstInField(now, person);
    }

    public int doors(int n) {
        if (n < 1 || n > EVENINGS_PLANNED) {
            return OUTSIDE;
        }
        return foretelling.fewestDoors(now, n);
    }

    public int funeral(int k) {
        if (k < NONE || k >= MOST_PEOPLE) {
            return OUTSIDE;
        }
        mourning.plan(now);
        if (k == NONE) {
            return mourning.fewest;
        }
        return k < now.people ? mourning.best[k] : NONE;
    }

    public int hearth(int n, int what) {
        if (n < 1 || n > EVENINGS_PLANNED || what < 0 || what > 1) {
            return OUTSIDE;
        }
        int kitchen = foretelling.bestHearth(now, n);
        if (kitchen == NONE || what == 0) {
            return kitchen;
        }
        return foretelling.timesWithHearth(now, kitchen, n);
    }

    public int draught(int q, int part) {
        if (q < 0 || q > QUARTERS || part < 0 || part > 1) {
            return OUTSIDE;
        }
        return foretelling.oddsInDraught(now, q, part);
    }

    // ---- what was seen

    public int seen(int g, int came, int h) {
        if (g < 0 || g > MOST_GRIEF || came < 0 || came > 1 || h < 0 || h > MOST_GRIEF) {
            return OUTSIDE;
        }
        if (sights.length == MOST_SEEN) {
            return FULL;
        }
        sights.add(g, came == 1, h);
        return sights.length;
    }

    public int forget() {
        int had = sights.length;
        sights.length = 0;
        return had;
    }

    public int kinds() {
        return sights.fitting();
    }

    public int ask() {
        return sights.bestQuestion();
    }

    // ---- cups

    public int cup(int cup, int n) {
        if (!isCup(cup)) {
            return UNKNOWN;
        }
        if (n > MOST_HELD) {
            return OUTSIDE;
        }
        if (n < 0) {
            return SIZE;
        }
        cups[cup].make(n);
        return n;
    }

    public int put(int cup, int end, int what, int v) {
        if (!isCup(cup) || what == Cup.PERSON && !now.hasPerson(v)) {
            return UNKNOWN;
        }
        if (!isEnd(end) || !isThing(what, v)) {
            return OUTSIDE;
        }
        Cup into = cups[cup];
        if (into.missing) {
            return NULL;
        }
        if (what == Cup.NO_THING) {
            return NOTHING;
        }
        if (into.held == into.places) {
            return ROOM;
        }
        into.add(end, what, v);
        return into.held;
    }

    public int take(int cup, int end, int what) {
        if (!isCup(cup)) {
            return UNKNOWN;
        }
        if (!isEnd(end) || what < Cup.NUMBER || what > Cup.TEAR) {
            return OUTSIDE;
        }
        Cup from = cups[cup];
        if (from.missing) {
            return NULL;
        }
        if (from.held == 0) {
            return EMPTY;
        }
        if (from.sortAt(end) != what) {
            return CAST;
        }
        int taken = from.valueAt(end);
        from.remove(end);
        return what == Cup.NUMBER ? taken + NUMBER_SHIFT : taken;
    }

    public int turn(int cup, int n) {
        if (!isCup(cup)) {
            return UNKNOWN;
        }
        if (n < 0 || n > MOST_TURNS) {
            return OUTSIDE;
        }
        Cup turned = cups[cup];
        if (turned.missing) {
            return NULL;
        }
        if (turned.held == 0 && n > 0) {
            return EMPTY;
        }
        for (int i = 0; i < n; i++) {
            turned.moveFirstTo(turned);
        }
        return turned.held;
    }

    public int pour(int from, int to) {
        if (!isCup(from) || !isCup(to) || from == to) {
            return UNKNOWN;
        }
        Cup source = cups[from];
        Cup target = cups[to];
        if (source.missing || target.missing) {
            return NULL;
        }
        if (target.held + source.held > target.places) {
            return ROOM;
        }
        int moving = source.held;
        for (int i = 0; i < moving; i++) {
            source.moveFirstTo(target);
        }
        return target.held;
    }

    public int like(int cup, int other) {
        if (!isCup(cup) || !isCup(other)) {
            return UNKNOWN;
        }
        if (cups[cup].missing || cups[other].missing) {
            return NULL;
        }
        return cups[cup].holdsSameAs(cups[other]) ? 1 : 0;
    }

    public int drop(int cup) {
        if (!isCup(cup)) {
            return UNKNOWN;
        }
        if (cups[cup].missing) {
            return NULL;
        }
        int had = cups[cup].held;
        cups[cup].discard();
        return had;
    }

    public int count(int what) {
        switch (what) {
            case 0: return now.kitchens;
            case 1: return now.people;
            case 2: return now.evening;
            case 3: return now.open;
            case 4: return now.comingOn();
            case 5: return now.griefOfAll();
            case 6: return now.luckOfAll();
            case 7: return sights.length;
            case 8: return heldInAllCups();
            case 9: return past.length;
            case 10: return text.length;
            default: return OUTSIDE;
        }
    }

    private int heldInAllCups() {
        int sum = 0;
        for (int c = 0; c < CUPS; c++) {
            sum += cups[c].held;
        }
        return sum;
    }

    private static boolean isCup(int cup) {
        return cup >= 0 && cup < CUPS;
    }

    private static boolean isEnd(int end) {
        return end == Cup.AHEAD || end == Cup.AT_BACK;
    }

    private static boolean isThing(int what, int v) {
        switch (what) {
            case Cup.NUMBER: return v >= -MOST_NUMBER && v <= MOST_NUMBER;
            case Cup.TEAR: return v >= 0 && v <= MOST_TEAR;
            default: return what == Cup.PERSON || what == Cup.NO_THING;
        }
    }

    /** What differs by kind; rows are by kind: wife, man, girl, hard, worn. */
    static final class Kinds {
        static final int ALL = 5;
        /** The kinds as they are over one another: person, wife, man, girl, hard, worn. */
        static final int IN_TREE = 6;

        private static final int[] BEARS = {6, 12, 3, 20, 10};
        private static final int[] GOES = {6, 1, 6, 6, 6};
        private static final int[] EASES = {5, 5, 5, 20, 5};
        private static final int[] GROWS = {2, 2, 3, 1, 1};
        /** By kind: the kinds of the tree (bits) that it is. */
        private static final int[] UNDER = {0b000011, 0b000111, 0b001011, 0b010001, 0b110001};

        private Kinds() {
        }

        static int bears(int kind) {
            return isKind(kind) ? BEARS[kind] : 0;
        }

        static int goes(int kind) {
            return isKind(kind) ? GOES[kind] : 0;
        }

        static boolean isUnder(int kind, int inTree) {
            return isKind(kind) && (UNDER[kind] >> inTree & 1) == 1;
        }

        static boolean comesOnAt(int kind, int grief) {
            return isKind(kind) && grief >= BEARS[kind];
        }

        static int eased(int kind, int grief) {
            return isKind(kind) ? Math.max(0, grief - EASES[kind]) : grief;
        }

        static int grown(int kind, int grief) {
            return isKind(kind) ? Math.min(MOST_GRIEF, grief + GROWS[kind]) : grief;
        }

        /** Grief behind an evening, in a kitchen if it comes on. */
        static int afterEvening(int kind, int grief) {
            return comesOnAt(kind, grief) ? eased(kind, grief) : grown(kind, grief);
        }

        private static boolean isKind(int kind) {
            return kind >= 0 && kind < ALL;
        }
    }

    /** Kitchens, people and the evening: all that can be told, kept and undone. */
    static final class Lane {
        int kitchens;
        int people;
        int evening;
        /** The open kitchens, by bits. */
        int open;
        final int[] room = new int[MOST_KITCHENS];
        final int[] luck = new int[MOST_KITCHENS];
        final int[] kind = new int[MOST_PEOPLE];
        final int[] home = new int[MOST_PEOPLE];
        final int[] grief = new int[MOST_PEOPLE];
        /** By person: with whom one has fallen out, by bits. */
        final int[] fell = new int[MOST_PEOPLE];

        /** Of the latest evening alone: who went where, how many to each kitchen, how many to the field. */
        final int[] place = new int[MOST_PEOPLE];
        final int[] went = new int[MOST_KITCHENS];
        int inField;

        void clear() {
            kitchens = 0;
            people = 0;
            evening = 0;
            open = 0;
        }

        void copyFrom(Lane other) {
            kitchens = other.kitchens;
            people = other.people;
            evening = other.evening;
            open = other.open;
            System.arraycopy(other.room, 0, room, 0, MOST_KITCHENS);
            System.arraycopy(other.luck, 0, luck, 0, MOST_KITCHENS);
            System.arraycopy(other.kind, 0, kind, 0, MOST_PEOPLE);
            System.arraycopy(other.home, 0, home, 0, MOST_PEOPLE);
            System.arraycopy(other.grief, 0, grief, 0, MOST_PEOPLE);
            System.arraycopy(other.fell, 0, fell, 0, MOST_PEOPLE);
        }

        boolean hasKitchen(int k) {
            return k >= 0 && k < kitchens;
        }

        boolean hasPerson(int p) {
            return p >= 0 && p < people;
        }

        boolean isOpen(int k) {
            return (open >> k & 1) == 1;
        }

        void addKitchen(boolean isOpen, int places) {
            if (kitchens < MOST_KITCHENS) {
                room[kitchens] = places;
                luck[kitchens] = 0;
                open |= isOpen ? 1 << kitchens : 0;
                kitchens++;
            }
        }

        void addPerson(int itsKind, int itsHome, int itsGrief) {
            if (people < MOST_PEOPLE) {
                kind[people] = itsKind;
                home[people] = itsHome;
                grief[people] = itsGrief;
                fell[people] = 0;
                people++;
            }
        }

        void fallOut(int a, int b) {
            if (hasPerson(a) && hasPerson(b)) {
                fell[a] |= 1 << b;
                fell[b] |= 1 << a;
            }
        }

        void reconcile(int a, int b) {
            if (hasPerson(a) && hasPerson(b)) {
                fell[a] &= ~(1 << b);
                fell[b] &= ~(1 << a);
            }
        }

        int livingIn(int k) {
            int bits = 0;
            for (int p = 0; p < people; p++) {
                bits |= home[p] == k ? 1 << p : 0;
            }
            return bits;
        }

        int griefOfAll() {
            int sum = 0;
            for (int p = 0; p < people; p++) {
                sum += grief[p];
            }
            return sum;
        }

        int luckOfAll() {
            int sum = 0;
            for (int k = 0; k < kitchens; k++) {
                sum += luck[k];
            }
            return sum;
        }

        boolean comesOn(int p) {
            return Kinds.comesOnAt(kind[p], grief[p]);
        }

        int comingOn() {
            int bits = 0;
            for (int p = 0; p < people; p++) {
                bits |= comesOn(p) ? 1 << p : 0;
            }
            return bits;
        }

        void passEvenings(int n) {
            for (int i = 0; i < n; i++) {
                passEvening();
            }
        }

        void passEvening() {
            emptyKitchens();
            for (int p = 0; p < people; p++) {
                int goal = comesOn(p) ? goalOf(p) : NONE;
                place[p] = goal;
                if (goal == NONE) {
                    grief[p] = Kinds.grown(kind[p], grief[p]);
                } else if (hasKitchen(goal)) {
                    went[goal]++;
                    luck[goal]++;
                    grief[p] = Kinds.eased(kind[p], grief[p]);
                } else {
                    inField++;
                    grief[p] = Math.max(0, grief[p] - 1);
                }
            }
            evening++;
        }

        void emptyKitchens() {
            Arrays.fill(went, 0);
            inField = 0;
        }

        /** The kitchen to which one goes behind those who went already, or the field. */
        int goalOf(int p) {
            int shunned = homesOf(fell[p]);
            int reach = Kinds.goes(kind[p]);
            for (int off = 1; off <= reach; off++) {
                if (takesIn(home[p] - off, shunned)) {
                    return home[p] - off;
                }
                if (takesIn(home[p] + off, shunned)) {
                    return home[p] + off;
                }
            }
            return THE_FIELD;
        }

        private boolean takesIn(int k, int shunned) {
            return hasKitchen(k) && isOpen(k) && (shunned >> k & 1) == 0 && went[k] < room[k];
        }

        private int homesOf(int persons) {
            int bits = 0;
            for (int p = 0; p < people; p++) {
                bits |= (persons >> p & 1) == 1 ? 1 << home[p] : 0;
            }
            return bits;
        }
    }

    /** The text as it is written, a letter at a time. */
    static final class Letters {
        private final int[] letters = new int[MOST_LETTERS];
        int length;

        void add(int letter) {
            if (length < MOST_LETTERS) {
                letters[length] = letter;
                length++;
            }
        }

        /** The letter at a place; NONE behind the end. */
        int at(int place) {
            return place >= 0 && place < length ? letters[place] : NONE;
        }
    }

    /** Reads the text token by token, and does its clauses on a draft until the first fault. */
    static final class Reader {
        private final Letters text;
        private final Lane draft;
        /** The token that is looked at: its first letter, and the place behind its last. */
        private int start;
        private int end;
        int clauses;

        Reader(Letters text, Lane draft) {
            this.text = text;
            this.draft = draft;
        }

        /** The place of the first fault; NONE: then the draft is as told by the earlier texts and this one. */
        int readBehind(Lane earlier) {
            draft.copyFrom(earlier);
            end = 0;
            clauses = 0;
            boolean more = true;
            while (more && clauses < MOST_CLAUSES) {
                step();
                if (!readClause()) {
                    return start;
                }
                clauses++;
                step();
                more = text.at(start) == ';';
            }
            return start == text.length ? NONE : start;
        }

        private void step() {
            start = end;
            while (start < text.length && text.at(start) == ' ') {
                start++;
            }
            end = start;
            if (isSmall(text.at(start))) {
                while (end < text.length && isSmall(text.at(end))) {
                    end++;
                }
            } else if (isDigit(text.at(start))) {
                while (end < text.length && isDigit(text.at(end))) {
                    end++;
                }
            } else if (start < text.length) {
                end++;
            }
        }

        private boolean readClause() {
            if (isWord("lane")) {
                draft.clear();
                return true;
            }
            if (isWord("open")) {
                return readKitchen(true);
            }
            if (isWord("shut")) {
                return readKitchen(false);
            }
            if (isWord("fell")) {
                return readFell();
            }
            int kind = kindWord();
            return kind != NONE && readPerson(kind);
        }

        private int kindWord() {
            if (isWord("wife")) {
                return 0;
            }
            if (isWord("man")) {
                return 1;
            }
            if (isWord("girl")) {
                return 2;
            }
            if (isWord("hard")) {
                return 3;
            }
            return isWord("worn") ? 4 : NONE;
        }

        private boolean readKitchen(boolean isOpen) {
            if (draft.kitchens == MOST_KITCHENS) {
                return false;
            }
            int places = nextNumber(MOST_ROOM);
            if (places == NONE) {
                return false;
            }
            draft.addKitchen(isOpen, places);
            return true;
        }

        private boolean readPerson(int kind) {
            if (draft.people == MOST_PEOPLE) {
                return false;
            }
            int home = nextNumber(draft.kitchens - 1);
            if (home == NONE) {
                return false;
            }
            int grief = nextNumber(MOST_GRIEF);
            if (grief == NONE) {
                return false;
            }
            draft.addPerson(kind, home, grief);
            return true;
        }

        private boolean readFell() {
            int a = nextNumber(draft.people - 1);
            if (a == NONE) {
                return false;
            }
            int b = nextNumber(draft.people - 1);
            if (b == NONE || b == a) {
                return false;
            }
            draft.fallOut(a, b);
            return true;
        }

        /** The next token as a number up to a bound; NONE if it is no such number. */
        private int nextNumber(int most) {
            step();
            int digits = end - start;
            if (!isDigit(text.at(start)) || digits > 2) {
                return NONE;
            }
            int value = 0;
            for (int i = start; i < end; i++) {
                value = value * 10 + text.at(i) - '0';
            }
            return value <= most ? value : NONE;
        }

        private boolean isWord(String word) {
            if (end - start != word.length()) {
                return false;
            }
            for (int i = 0; i < word.length(); i++) {
                if (text.at(start + i) != word.charAt(i)) {
                    return false;
                }
            }
            return true;
        }

        private static boolean isSmall(int letter) {
            return letter >= 'a' && letter <= 'z';
        }

        private static boolean isDigit(int letter) {
            return letter >= '0' && letter <= '9';
        }
    }

    /** The lane as it was ahead of each of the latest deeds. */
    static final class Past {
        /** A power of two, so that a mask keeps every place inside the row. */
        private static final int MOST = 8;
        private final Lane[] lanes = new Lane[MOST];
        private int next;
        int length;

        Past() {
            for (int i = 0; i < MOST; i++) {
                lanes[i] = new Lane();
            }
        }

        void clear() {
            length = 0;
        }

        void remember(Lane lane) {
            lanes[next & MOST - 1].copyFrom(lane);
            next = next + 1 & MOST - 1;
            length = Math.min(MOST, length + 1);
        }

        void restoreTo(Lane lane) {
            if (length > 0) {
                next = next - 1 & MOST - 1;
                lane.copyFrom(lanes[next]);
                length--;
            }
        }
    }

    /** What would come: tried on a lane of its own, so that nothing changes. */
    static final class Foretelling {
        private final Lane trial = new Lane();

        Lane behindEvenings(Lane now, int n) {
            trial.copyFrom(now);
            trial.passEvenings(n);
            return trial;
        }

        int firstInField(Lane now, int person) {
            if (!now.hasPerson(person)) {
                return NONE;
            }
            trial.copyFrom(now);
            for (int n = 0; n <= EVENINGS_AHEAD; n++) {
                trial.passEvening();
                if (trial.place[person] == THE_FIELD) {
                    return n;
                }
            }
            return NONE;
        }

        int fewestDoors(Lane now, int n) {
            int sets = 1 << now.kitchens;
            for (int size = 0; size <= now.kitchens; size++) {
                for (int set = 0; set < sets; set++) {
                    if (Integer.bitCount(set) == size && sparesField(now, set, n)) {
                        return set;
                    }
                }
            }
            return NONE;
        }

        /** Whether nobody goes to the field in n evenings, just these kitchens being open. */
        private boolean sparesField(Lane now, int open, int n) {
            trial.copyFrom(now);
            trial.open = open;
            for (int i = 0; i < n; i++) {
                trial.passEvening();
                if (trial.inField > 0) {
                    return false;
                }
            }
            return true;
        }

        int bestHearth(Lane now, int n) {
            int best = NONE;
            int fewest = 0;
            for (int k = 0; k < now.kitchens; k++) {
                int times = timesWithHearth(now, k, n);
                if (best == NONE || times < fewest) {
                    best = k;
                    fewest = times;
                }
            }
            return best;
        }

        int timesWithHearth(Lane now, int kitchen, int n) {
            trial.copyFrom(now);
            if (trial.hasKitchen(kitchen)) {
                trial.room[kitchen] = MOST_ROOM;
                trial.open |= 1 << kitchen;
            }
            int times = 0;
            for (int i = 0; i < n; i++) {
                trial.passEvening();
                times += trial.inField;
            }
            return times;
        }

        int oddsInDraught(Lane now, int q, int part) {
            int above = 0;
            int below = power(QUARTERS, Integer.bitCount(now.open));
            for (int set = 0; set < 1 << now.kitchens; set++) {
                int ways = waysToStayOpen(now.open, set, q);
                if (ways > 0 && sparesField(now, set, 1)) {
                    above += ways;
                }
            }
            // below is a power of two, so halving alone brings lowest terms
            while (below > 1 && above % 2 == 0) {
                above /= 2;
                below /= 2;
            }
            return part == 0 ? above : below;
        }

        /** Of 4 to the number of open kitchens: the ways by which just these stay open. */
        private static int waysToStayOpen(int open, int staying, int q) {
            if ((staying & ~open) != 0) {
                return 0;
            }
            int stay = Integer.bitCount(staying);
            int shut = Integer.bitCount(open) - stay;
            return power(QUARTERS - q, stay) * power(q, shut);
        }

        private static int power(int base, int exponent) {
            int product = 1;
            for (int i = 0; i < exponent; i++) {
                product *= base;
            }
            return product;
        }
    }

    /** The order in which all should go so that fewest go to the field. */
    static final class Funeral {
        private final Lane trial = new Lane();
        private final int[] order = new int[MOST_PEOPLE];
        final int[] best = new int[MOST_PEOPLE];
        int fewest;

        void plan(Lane now) {
            trial.copyFrom(now);
            trial.emptyKitchens();
            fewest = now.people + 1;
            tryOrders(0, 0, 0);
        }

        /** Orders are tried from the first on, so one that is only as good as the best is no better. */
        private void tryOrders(int depth, int gone, int inField) {
            if (inField >= fewest || depth > MOST_PEOPLE) {
                return;
            }
            if (depth == trial.people) {
                fewest = inField;
                System.arraycopy(order, 0, best, 0, MOST_PEOPLE);
                return;
            }
            for (int p = 0; p < trial.people; p++) {
                if ((gone >> p & 1) == 0) {
                    order[depth] = p;
                    letGo(p, depth, gone, inField);
                }
            }
        }

        private void letGo(int p, int depth, int gone, int inField) {
            int goal = trial.goalOf(p);
            if (trial.hasKitchen(goal)) {
                trial.went[goal]++;
                tryOrders(depth + 1, gone | 1 << p, inField);
                trial.went[goal]--;
            } else {
                tryOrders(depth + 1, gone | 1 << p, inField + 1);
            }
        }
    }

    /** What was seen of one whose kind is unknown. */
    static final class Sights {
        private final int[] before = new int[MOST_SEEN];
        private final boolean[] cameOn = new boolean[MOST_SEEN];
        private final int[] after = new int[MOST_SEEN];
        int length;

        void add(int g, boolean came, int h) {
            if (length < MOST_SEEN) {
                before[length] = g;
                cameOn[length] = came;
                after[length] = h;
                length++;
            }
        }

        /** The kinds, by bits, by which all would be as it was seen. */
        int fitting() {
            int bits = 0;
            for (int kind = 0; kind < Kinds.ALL; kind++) {
                bits |= fits(kind) ? 1 << kind : 0;
            }
            return bits;
        }

        private boolean fits(int kind) {
            for (int i = 0; i < length; i++) {
                if (Kinds.comesOnAt(kind, before[i]) != cameOn[i]
                        || Kinds.afterEvening(kind, before[i]) != after[i]) {
                    return false;
                }
            }
            return true;
        }

        /** The grief that parts the fitting kinds best; NONE if none parts them. */
        int bestQuestion() {
            int kinds = fitting();
            int best = NONE;
            int least = Integer.bitCount(kinds);
            for (int g = 0; g <= MOST_GRIEF; g++) {
                int part = greatestPart(kinds, g);
                if (part < least) {
                    best = g;
                    least = part;
                }
            }
            return best;
        }

        private static int greatestPart(int kinds, int g) {
            int greatest = 0;
            for (int kind = 0; kind < Kinds.ALL; kind++) {
                if ((kinds >> kind & 1) == 1) {
                    greatest = Math.max(greatest, alike(kinds, g, Kinds.afterEvening(kind, g)));
                }
            }
            return greatest;
        }

        private static int alike(int kinds, int g, int after) {
            int alike = 0;
            for (int kind = 0; kind < Kinds.ALL; kind++) {
                if ((kinds >> kind & 1) == 1 && Kinds.afterEvening(kind, g) == after) {
                    alike++;
                }
            }
            return alike;
        }
    }

    /** A row of things with two ends, held in a ring. */
    static final class Cup {
        static final int NUMBER = 0, PERSON = 1, TEAR = 2, NO_THING = 3;
        static final int AHEAD = 0, AT_BACK = 1;

        private final int[] sorts = new int[MOST_HELD];
        private final int[] values = new int[MOST_HELD];
        private int first;
        boolean missing = true;
        int places;
        int held;

        void make(int n) {
            missing = false;
            places = n;
            held = 0;
        }

        void discard() {
            missing = true;
            places = 0;
            held = 0;
        }

        void add(int end, int sort, int value) {
            if (held < MOST_HELD) {
                if (end == AHEAD) {
                    first = ring(-1);
                }
                held++;
                sorts[atEnd(end)] = sort;
                values[atEnd(end)] = value;
            }
        }

        int sortAt(int end) {
            return sorts[atEnd(end)];
        }

        int valueAt(int end) {
            return values[atEnd(end)];
        }

        void remove(int end) {
            if (held > 0) {
                if (end == AHEAD) {
                    first = ring(1);
                }
                held--;
            }
        }

        void moveFirstTo(Cup target) {
            if (held > 0) {
                int sort = sortAt(AHEAD);
                int value = valueAt(AHEAD);
                remove(AHEAD);
                target.add(AT_BACK, sort, value);
            }
        }

        boolean holdsSameAs(Cup other) {
            if (held != other.held) {
                return false;
            }
            for (int i = 0; i < held; i++) {
                int mine = ring(i);
                int theirs = other.ring(i);
                if (sorts[mine] != other.sorts[theirs] || values[mine] != other.values[theirs]) {
                    return false;
                }
            }
            return true;
        }

        private int atEnd(int end) {
            return ring(end == AHEAD ? 0 : held - 1);
        }

        private int ring(int place) {
            return Math.floorMod(first + place, MOST_HELD);
        }
    }
}
