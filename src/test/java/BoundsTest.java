import java.util.Arrays;

/** Sentence by sentence of the document: at each bound, one below, one above; empty, full, refused. */
public final class BoundsTest {
    /** By promise: the call, and every way in which the document lets it be refused, or have no answer. */
    private static final String[] NAMED = {
        "write OUTSIDE FULL", "fault NONE", "lane NOT", "kitchen UNKNOWN OUTSIDE", "person UNKNOWN OUTSIDE",
        "as UNKNOWN OUTSIDE NOT", "evening OUTSIDE FULL", "door UNKNOWN", "grieve UNKNOWN OUTSIDE NOT",
        "peace UNKNOWN NOT", "undo NOT", "keep UNKNOWN", "back UNKNOWN NOT", "where NONE UNKNOWN OUTSIDE",
        "behind UNKNOWN OUTSIDE", "luck UNKNOWN OUTSIDE", "field NONE UNKNOWN", "doors NONE OUTSIDE",
        "funeral NONE OUTSIDE", "hearth NONE OUTSIDE", "draught OUTSIDE", "seen OUTSIDE FULL", "ask NONE",
        "cup UNKNOWN OUTSIDE SIZE", "put UNKNOWN OUTSIDE NULL NOTHING ROOM", "take UNKNOWN OUTSIDE NULL EMPTY CAST",
        "turn UNKNOWN OUTSIDE NULL EMPTY", "pour UNKNOWN NULL ROOM", "like UNKNOWN NULL", "drop UNKNOWN NULL",
        "count OUTSIDE"};

    public static void main(String[] args) {
        Runs runs = new Runs();
        new TextBounds(runs).all();
        new LaneBounds(runs).all();
        new DeedBounds(runs).all();
        new ForetoldBounds(runs).all();
        new SeenBounds(runs).all();
        new CupBounds(runs).all();
        for (String named : NAMED) {
            String[] words = named.split(" ");
            runs.mustHaveAnswered(words[0], Arrays.copyOfRange(words, 1, words.length));
        }
        for (int promise = 1; promise <= 35; promise++) {
            runs.mustHaveRunsFor(promise);
        }
        System.out.println(runs.wrong() == 0 ? runs.made() + " answers are as due" : runs.wrong() + " are not as due");
        if (runs.wrong() != 0) {
            System.exit(1);
        }
    }
}
