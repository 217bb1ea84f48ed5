/** Each promise of the document, by runs worked out by hand. */
public final class PromiseTest extends PromiseCases {
    private static final Class<IndexOutOfBoundsException> INDEX = IndexOutOfBoundsException.class;
    private static final Class<IllegalArgumentException> ARGUMENT = IllegalArgumentException.class;
    private static final Class<IllegalStateException> STATE = IllegalStateException.class;

    private PromiseTest() {
    }

    public static void main(String[] args) throws IllegalAccessException {
        new PromiseTest().runAll();
    }

    private void same(String call, Object got, Object due) {
        check().same(running() + ": " + call, got, due);
    }

    private void thrown(String call, Class<? extends RuntimeException> due, Check.Call made) {
        check().thrown(running() + ": " + call, due, made);
    }

    /** The text of an author, a for 0, by letterAt; the other ways to ask must answer the same. */
    private String text(EditGraph x, int author) {
        StringBuilder text = new StringBuilder();
        int length = x.length(author);
        for (int place = 0; place < length; place++) {
            int letter = x.letterAt(author, place);
            text.append((char) ('a' + letter));
            same("letterByList(" + author + ", " + place + ")", x.letterByList(author, place), letter);
        }
        thrown("letterAt behind the last", INDEX, () -> x.letterAt(author, length));
        thrown("letterByList behind the last", INDEX, () -> x.letterByList(author, length));
        thrown("eventAt behind the last", INDEX, () -> x.eventAt(author, length));
        return text.toString();
    }

    private String textOf(EditGraph x, int event) {
        StringBuilder text = new StringBuilder();
        int length = x.lengthOf(event);
        for (int place = 0; place < length; place++) {
            text.append((char) ('a' + x.letterOf(event, place)));
        }
        thrown("letterOf behind the last", INDEX, () -> x.letterOf(event, length));
        return text.toString();
    }

    private static void type(EditGraph x, int author, int place, String letters) {
        for (int i = 0; i < letters.length(); i++) {
            x.insert(author, place + i, letters.charAt(i) - 'a');
        }
    }

    private static EditGraph full() {
        EditGraph x = new EditGraph();
        for (int event = 0; event < 60; event++) {
            x.insert(0, event, event % 26);
        }
        return x;
    }

    void promise1NewObject() {
        EditGraph x = new EditGraph();
        same("events", x.events(), 0);
        for (int author = 0; author < 4; author++) {
            same("version", x.version(author), 0L);
            same("heads", x.heads(author), 0L);
            same("text", text(x, author), "");
            same("critical", x.critical(author), 0L);
            same("toReplay", x.toReplay(author), 0);
            same("runs", x.runs(author), 0);
            same("concurrent", x.concurrent(author), 0);
        }
        same("NONE", EditGraph.NONE, -1);
        EditGraph other = new EditGraph();
        other.insert(0, 0, 0);
        same("events of the first object", x.events(), 0);
    }

    void promise2Insert() {
        EditGraph x = new EditGraph();
        same("insert", x.insert(3, 0, 25), 0);
        same("insert", x.insert(3, 0, 0), 1);
        same("insert at the end", x.insert(3, 2, 1), 2);
        same("insert between", x.insert(3, 1, 2), 3);
        same("text", text(x, 3), "aczb");
        same("insert of another author", x.insert(0, 0, 4), 4);
        same("parents", x.parents(4), 0L);
        same("text", text(x, 0), "e");
        thrown("insert(4, 0, 0)", INDEX, () -> x.insert(4, 0, 0));
        thrown("insert(-1, 0, 0)", INDEX, () -> x.insert(-1, 0, 0));
        thrown("insert(3, 5, 0)", INDEX, () -> x.insert(3, 5, 0));
        thrown("insert(3, -1, 0)", INDEX, () -> x.insert(3, -1, 0));
        thrown("insert at the greatest int", INDEX, () -> x.insert(3, Integer.MAX_VALUE, 0));
        thrown("insert(0, 2, 0)", INDEX, () -> x.insert(0, 2, 0));
        thrown("insert(3, 0, 26)", ARGUMENT, () -> x.insert(3, 0, 26));
        thrown("insert(3, 4, -1)", ARGUMENT, () -> x.insert(3, 4, -1));
        thrown("insert(3, 5, 26)", INDEX, () -> x.insert(3, 5, 26));
        thrown("insert(4, 0, 26)", INDEX, () -> x.insert(4, 0, 26));
        same("the next insert", x.insert(3, 4, 3), 5);
        insertHangsAtWhatIsSeen();
    }

    private void insertHangsAtWhatIsSeen() {
        EditGraph x = new EditGraph();
        type(x, 0, 0, "abc");
        x.learn(1, 0);
        x.delete(0, 1);
        // It hangs at the a, the last letter that stands ahead, and so comes ahead of the b for author 1.
        x.insert(0, 1, 23);
        x.insert(1, 2, 24);
        same("text", text(x, 0), "axc");
        same("text", text(x, 1), "abyc");
        x.learn(1, 0);
        same("text", text(x, 1), "axyc");
    }

    void promise3Delete() {
        EditGraph x = new EditGraph();
        thrown("delete of an empty text", INDEX, () -> x.delete(0, 0));
        type(x, 0, 0, "abcd");
        x.learn(1, 0);
        same("delete", x.delete(0, 1), 4);
        same("text", text(x, 0), "acd");
        same("delete of the last one", x.delete(0, 2), 5);
        same("delete of the first one", x.delete(0, 0), 6);
        same("text", text(x, 0), "c");
        same("text of another author", text(x, 1), "abcd");
        thrown("delete(0, 1)", INDEX, () -> x.delete(0, 1));
        thrown("delete(0, -1)", INDEX, () -> x.delete(0, -1));
        thrown("delete(4, 0)", INDEX, () -> x.delete(4, 0));
        thrown("delete(-1, 0)", INDEX, () -> x.delete(-1, 0));
        // Two deletes of one letter take it away once.
        same("delete of the same letter", x.delete(1, 1), 7);
        x.learn(0, 1);
        same("text", text(x, 0), "c");
        same("the next delete", x.delete(0, 0), 8);
        same("text", text(x, 0), "");
    }

    void promises2And3Full() {
        EditGraph x = full();
        same("events", x.events(), 60);
        thrown("insert of the 61st", STATE, () -> x.insert(0, 60, 0));
        thrown("insert of the 61st by another one", STATE, () -> x.insert(1, 0, 0));
        thrown("insert of no letter, full", ARGUMENT, () -> x.insert(0, 60, 26));
        thrown("insert at no place, full", INDEX, () -> x.insert(0, 61, 26));
        thrown("insert by no author, full", INDEX, () -> x.insert(4, 0, 0));
        thrown("delete of the 61st", STATE, () -> x.delete(0, 59));
        thrown("delete at no place, full", INDEX, () -> x.delete(0, 60));
        thrown("delete of an empty text, full", INDEX, () -> x.delete(1, 0));
        same("learn, full", x.learn(1, 0), 60);
        same("version, full", x.version(1), (1L << 60) - 1);
        same("critical, full", x.critical(1), (1L << 60) - 1);
        same("heads, full", x.heads(1), 1L << 59);
        same("runs, full", x.runs(1), 1);
        same("eventAt, full", x.eventAt(1, 59), 59);
        same("letterAt, full", x.letterAt(1, 59), 7);
        same("letterByList, full", x.letterByList(1, 59), 7);
        EditGraph ahead = new EditGraph();
        for (int event = 0; event < 60; event++) {
            ahead.insert(event % 4, 0, event % 26);
        }
        same("learn of 15", ahead.learn(0, 3), 15);
        same("first", ahead.eventAt(0, 0), 59);
        same("last", ahead.eventAt(0, 29), 0);
    }

    void promise4Learn() {
        EditGraph x = new EditGraph();
        type(x, 0, 0, "ab");
        type(x, 1, 0, "c");
        same("learn of himself", x.learn(0, 0), 0);
        same("learn of one without events", x.learn(0, 3), 0);
        same("learn", x.learn(2, 0), 2);
        same("learn once more", x.learn(2, 0), 0);
        same("learn of the third", x.learn(2, 1), 1);
        same("learn of both", x.learn(0, 2), 1);
        same("version of the other one", x.version(1), 4L);
        same("version", x.version(0), 7L);
        same("text", text(x, 0), "cab");
        same("events", x.events(), 3);
        thrown("learn(0, 4)", INDEX, () -> x.learn(0, 4));
        thrown("learn(4, 0)", INDEX, () -> x.learn(4, 0));
        thrown("learn(-1, -1)", INDEX, () -> x.learn(-1, -1));
    }

    void promise5LearnEvent() {
        EditGraph x = new EditGraph();
        type(x, 0, 0, "ab");
        type(x, 1, 0, "c");
        x.learn(1, 0);
        x.insert(1, 3, 3);
        same("learnEvent", x.learnEvent(2, 1), 2);
        same("version", x.version(2), 3L);
        same("learnEvent once more", x.learnEvent(2, 0), 0);
        same("learnEvent of a merge", x.learnEvent(2, 3), 2);
        same("version", x.version(2), 15L);
        same("learnEvent of his own", x.learnEvent(1, 3), 0);
        same("learnEvent of one", x.learnEvent(3, 2), 1);
        same("text", text(x, 3), "c");
        thrown("learnEvent(3, 4)", INDEX, () -> x.learnEvent(3, 4));
        thrown("learnEvent(3, -1)", INDEX, () -> x.learnEvent(3, -1));
        thrown("learnEvent(4, 0)", INDEX, () -> x.learnEvent(4, 0));
    }

    void promise6Events() {
        EditGraph x = new EditGraph();
        x.insert(0, 0, 0);
        same("events", x.events(), 1);
        x.learn(1, 0);
        same("events after learn", x.events(), 1);
        x.delete(1, 0);
        same("events after delete", x.events(), 2);
    }

    void promise7Length() {
        EditGraph x = new EditGraph();
        type(x, 2, 0, "abc");
        same("length", x.length(2), 3);
        x.delete(2, 0);
        same("length after delete", x.length(2), 2);
        same("length of another one", x.length(1), 0);
    }

    void promises8To10Letters() {
        EditGraph x = new EditGraph();
        type(x, 0, 0, "ab");
        x.learn(1, 0);
        type(x, 0, 1, "cd");
        type(x, 1, 1, "ef");
        x.learn(0, 1);
        x.learn(1, 0);
        // e and c hang at a; e has the greater number, and what hangs at e follows it.
        same("text", text(x, 0), "aefcdb");
        same("text of the other one", text(x, 1), "aefcdb");
        int[] events = {0, 4, 5, 2, 3, 1};
        for (int place = 0; place < events.length; place++) {
            same("eventAt", x.eventAt(0, place), events[place]);
        }
        x.delete(0, 1);
        same("eventAt", x.eventAt(0, 1), 5);
        same("text", text(x, 0), "afcdb");
        same("text of the other one", text(x, 1), "aefcdb");
        for (int place : new int[] {-1, 6, Integer.MIN_VALUE, Integer.MAX_VALUE}) {
            thrown("letterAt", INDEX, () -> x.letterAt(1, place));
            thrown("letterByList", INDEX, () -> x.letterByList(1, place));
            thrown("eventAt", INDEX, () -> x.eventAt(1, place));
        }
    }

    void promises11And12Versions() {
        EditGraph x = new EditGraph();
        type(x, 0, 0, "abc");
        x.learn(1, 0);
        x.delete(0, 1);
        x.insert(1, 0, 25);
        x.learn(0, 1);
        x.insert(0, 3, 24);
        same("text of 0", textOf(x, 0), "a");
        same("text of 2", textOf(x, 2), "abc");
        same("text of the delete", textOf(x, 3), "ac");
        same("text of the insert beside it", textOf(x, 4), "zabc");
        same("text of what follows both", textOf(x, 5), "zacy");
        thrown("letterOf(2, -1)", INDEX, () -> x.letterOf(2, -1));
        thrown("letterOf(2, 3)", INDEX, () -> x.letterOf(2, 3));
    }

    void promise13LettersBy() {
        EditGraph x = new EditGraph();
        type(x, 0, 0, "abc");
        x.learn(1, 0);
        type(x, 1, 1, "xy");
        x.delete(1, 0);
        int[] due = {2, 2, 0, 0};
        for (int by = 0; by < 4; by++) {
            same("lettersBy(1, " + by + ")", x.lettersBy(1, by), due[by]);
        }
        same("lettersBy(0, 0)", x.lettersBy(0, 0), 3);
        same("lettersBy(0, 1)", x.lettersBy(0, 1), 0);
    }

    void promises14To16Graph() {
        EditGraph x = new EditGraph();
        x.insert(2, 0, 0);
        x.learn(0, 2);
        x.insert(0, 0, 1);
        x.insert(2, 0, 2);
        x.learn(0, 2);
        x.delete(0, 0);
        x.insert(0, 0, 3);
        int[] authors = {2, 0, 2, 0, 0};
        long[] parents = {0L, 1L, 1L, 6L, 8L};
        for (int event = 0; event < 5; event++) {
            same("authorOf", x.authorOf(event), authors[event]);
            same("parents of " + event, x.parents(event), parents[event]);
        }
        String[] later = {".....", "x....", "x....", "xxx..", "xxxx."};
        for (int event = 0; event < 5; event++) {
            for (int other = 0; other < 5; other++) {
                String call = "isLater(" + event + ", " + other + ")";
                same(call, x.isLater(event, other), later[event].charAt(other) == 'x');
            }
        }
    }

    void promises17And18VersionAndHeads() {
        EditGraph x = new EditGraph();
        x.insert(0, 0, 0);
        x.insert(1, 0, 1);
        x.insert(0, 0, 2);
        same("version", x.version(0), 5L);
        same("heads", x.heads(0), 4L);
        x.learn(0, 1);
        same("version", x.version(0), 7L);
        same("heads", x.heads(0), 6L);
        same("heads of the other one", x.heads(1), 2L);
        x.insert(0, 0, 3);
        same("parents", x.parents(3), 6L);
        same("heads", x.heads(0), 8L);
        same("version", x.version(0), 15L);
        same("version of one without events", x.version(3), 0L);
    }

    void promise19CommonHeads() {
        EditGraph x = new EditGraph();
        x.insert(0, 0, 0);
        x.insert(1, 0, 1);
        same("commonHeads of nothing", x.commonHeads(0, 1), 0L);
        x.learn(2, 0);
        x.learn(2, 1);
        x.learn(3, 2);
        same("commonHeads", x.commonHeads(2, 3), 3L);
        x.insert(2, 0, 2);
        x.insert(3, 0, 3);
        // What follows the two is known by one of them only.
        same("commonHeads", x.commonHeads(2, 3), 3L);
        same("commonHeads", x.commonHeads(0, 2), 1L);
        same("commonHeads of one", x.commonHeads(2, 2), 4L);
        x.learn(3, 2);
        same("commonHeads", x.commonHeads(2, 3), 4L);
        same("commonHeads", x.commonHeads(3, 2), 4L);
    }

    void promise20Concurrent() {
        EditGraph x = new EditGraph();
        type(x, 0, 0, "abc");
        same("concurrent of one author", x.concurrent(0), 0);
        type(x, 1, 0, "de");
        x.learn(2, 0);
        same("concurrent of what he knows", x.concurrent(2), 0);
        x.learn(2, 1);
        same("concurrent", x.concurrent(2), 6);
        x.insert(2, 0, 5);
        same("concurrent after a merge", x.concurrent(2), 6);
        same("concurrent of the others", x.concurrent(1), 0);
    }

    void promises21And22Critical() {
        EditGraph x = new EditGraph();
        type(x, 0, 0, "ab");
        same("critical", x.critical(0), 3L);
        same("toReplay", x.toReplay(0), 0);
        x.learn(1, 0);
        type(x, 0, 2, "cd");
        type(x, 1, 2, "e");
        x.learn(0, 1);
        same("critical ahead of two branches", x.critical(0), 3L);
        same("toReplay", x.toReplay(0), 3);
        same("critical of one branch", x.critical(1), 19L);
        same("toReplay of one branch", x.toReplay(1), 0);
        x.insert(0, 0, 5);
        same("critical after a merge", x.critical(0), 35L);
        same("toReplay after a merge", x.toReplay(0), 0);
        x.learnEvent(3, 0);
        x.insert(3, 0, 7);
        x.learn(3, 0);
        same("critical is the first one only", x.critical(3), 1L);
        same("toReplay of all but the first one", x.toReplay(3), 6);
        x.insert(2, 0, 6);
        x.learn(0, 2);
        same("no critical one", x.critical(0), 0L);
        same("toReplay of all", x.toReplay(0), 7);
    }

    void promise23Runs() {
        EditGraph x = new EditGraph();
        type(x, 0, 0, "abc");
        same("runs of typing on", x.runs(0), 1);
        x.insert(0, 0, 3);
        same("runs after an insert elsewhere", x.runs(0), 2);
        x.insert(0, 1, 4);
        same("runs, typing on there", x.runs(0), 2);
        x.delete(0, 4);
        same("runs after a delete", x.runs(0), 3);
        x.insert(0, 2, 5);
        // It hangs at the letter of event 4, but its parent is the delete.
        same("runs after the delete", x.runs(0), 4);
        x.learn(1, 0);
        x.insert(1, 3, 6);
        same("runs, typed on by another one", x.runs(1), 5);
        same("runs of the first one", x.runs(0), 4);
        x.learn(0, 1);
        x.insert(2, 0, 7);
        x.learn(0, 2);
        x.insert(0, 4, 8);
        same("runs after a merge", x.runs(0), 7);
        runsBesideEachOther();
    }

    private void runsBesideEachOther() {
        EditGraph x = new EditGraph();
        x.insert(0, 0, 0);
        x.learn(1, 0);
        // Both hang at the letter of the only parent, but only one is of its author.
        x.insert(1, 1, 1);
        x.insert(0, 1, 2);
        x.insert(1, 2, 3);
        x.learn(2, 0);
        x.learn(2, 1);
        same("runs", x.runs(2), 2);
        x.delete(0, 1);
        x.delete(0, 0);
        same("runs with deletes", x.runs(0), 3);
        // Who knows only a part of a run counts that part.
        x.learnEvent(3, 1);
        same("runs of a part", x.runs(3), 2);
    }
}
