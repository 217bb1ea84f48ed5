/** Each promise of the document, by runs worked out by hand. */
public final class PromiseTest {
    private static final Class<IndexOutOfBoundsException> INDEX = IndexOutOfBoundsException.class;
    private static final Class<IllegalArgumentException> ARGUMENT = IllegalArgumentException.class;
    private static final Class<IllegalStateException> STATE = IllegalStateException.class;
    private static final int[] NO_AUTHORS = {-1, 4, Integer.MIN_VALUE, Integer.MAX_VALUE};

    private final Check check = new Check();

    private PromiseTest() {
    }

    public static void main(String[] args) {
        PromiseTest test = new PromiseTest();
        test.promise1NewObject();
        test.promise2Insert();
        test.promise3Delete();
        test.promises2And3Full();
        test.promise4Learn();
        test.promise5LearnEvent();
        test.promise6Events();
        test.promise7Length();
        test.promises8To10Letters();
        test.promises11And12Versions();
        test.promise13LettersBy();
        test.promises14To16Graph();
        test.promises17And18VersionAndHeads();
        test.promise19CommonHeads();
        test.promise20Concurrent();
        test.promises21And22Critical();
        test.promise23Runs();
        test.noSuchAuthor();
        test.noSuchEvent();
        test.check.finish();
    }

    /** The text of an author, a for 0, by letterAt; the other ways to ask must answer the same. */
    private String text(EditGraph x, int author) {
        StringBuilder text = new StringBuilder();
        int length = x.length(author);
        for (int place = 0; place < length; place++) {
            int letter = x.letterAt(author, place);
            text.append((char) ('a' + letter));
            check.same("letterByList(" + author + ", " + place + ")", x.letterByList(author, place), letter);
        }
        check.thrown("letterAt behind the last", INDEX, () -> x.letterAt(author, length));
        check.thrown("letterByList behind the last", INDEX, () -> x.letterByList(author, length));
        check.thrown("eventAt behind the last", INDEX, () -> x.eventAt(author, length));
        return text.toString();
    }

    private String textOf(EditGraph x, int event) {
        StringBuilder text = new StringBuilder();
        int length = x.lengthOf(event);
        for (int place = 0; place < length; place++) {
            text.append((char) ('a' + x.letterOf(event, place)));
        }
        check.thrown("letterOf behind the last", INDEX, () -> x.letterOf(event, length));
        return text.toString();
    }

    private static void type(EditGraph x, int author, int place, String letters) {
        for (int i = 0; i < letters.length(); i++) {
            x.insert(author, place + i, letters.charAt(i) - 'a');
        }
    }

    private static EditGraph full() {
        EditGraph x = new EditGraph();
        for (int event = 0; event < 60; event++) {
            x.insert(0, event, event % 26);
        }
        return x;
    }

    private void promise1NewObject() {
        EditGraph x = new EditGraph();
        check.same("events", x.events(), 0);
        for (int author = 0; author < 4; author++) {
            check.same("version", x.version(author), 0L);
            check.same("heads", x.heads(author), 0L);
            check.same("text", text(x, author), "");
            check.same("critical", x.critical(author), 0L);
            check.same("toReplay", x.toReplay(author), 0);
            check.same("runs", x.runs(author), 0);
            check.same("concurrent", x.concurrent(author), 0);
        }
        check.same("NONE", EditGraph.NONE, -1);
        EditGraph other = new EditGraph();
        other.insert(0, 0, 0);
        check.same("events of the first object", x.events(), 0);
    }

    private void promise2Insert() {
        EditGraph x = new EditGraph();
        check.same("insert", x.insert(3, 0, 25), 0);
        check.same("insert", x.insert(3, 0, 0), 1);
        check.same("insert at the end", x.insert(3, 2, 1), 2);
        check.same("insert between", x.insert(3, 1, 2), 3);
        check.same("text", text(x, 3), "aczb");
        check.same("insert of another author", x.insert(0, 0, 4), 4);
        check.same("parents", x.parents(4), 0L);
        check.same("text", text(x, 0), "e");
        check.thrown("insert(4, 0, 0)", INDEX, () -> x.insert(4, 0, 0));
        check.thrown("insert(-1, 0, 0)", INDEX, () -> x.insert(-1, 0, 0));
        check.thrown("insert(3, 5, 0)", INDEX, () -> x.insert(3, 5, 0));
        check.thrown("insert(3, -1, 0)", INDEX, () -> x.insert(3, -1, 0));
        check.thrown("insert at the greatest int", INDEX, () -> x.insert(3, Integer.MAX_VALUE, 0));
        check.thrown("insert(0, 2, 0)", INDEX, () -> x.insert(0, 2, 0));
        check.thrown("insert(3, 0, 26)", ARGUMENT, () -> x.insert(3, 0, 26));
        check.thrown("insert(3, 4, -1)", ARGUMENT, () -> x.insert(3, 4, -1));
        check.thrown("insert(3, 5, 26)", INDEX, () -> x.insert(3, 5, 26));
        check.thrown("insert(4, 0, 26)", INDEX, () -> x.insert(4, 0, 26));
        check.same("the next insert", x.insert(3, 4, 3), 5);
        insertHangsAtWhatIsSeen();
    }

    private void insertHangsAtWhatIsSeen() {
        EditGraph x = new EditGraph();
        type(x, 0, 0, "abc");
        x.learn(1, 0);
        x.delete(0, 1);
        // It hangs at the a, the last letter that stands ahead, and so comes ahead of the b for author 1.
        x.insert(0, 1, 23);
        x.insert(1, 2, 24);
        check.same("text", text(x, 0), "axc");
        check.same("text", text(x, 1), "abyc");
        x.learn(1, 0);
        check.same("text", text(x, 1), "axyc");
    }

    private void promise3Delete() {
        EditGraph x = new EditGraph();
        check.thrown("delete of an empty text", INDEX, () -> x.delete(0, 0));
        type(x, 0, 0, "abcd");
        x.learn(1, 0);
        check.same("delete", x.delete(0, 1), 4);
        check.same("text", text(x, 0), "acd");
        check.same("delete of the last one", x.delete(0, 2), 5);
        check.same("delete of the first one", x.delete(0, 0), 6);
        check.same("text", text(x, 0), "c");
        check.same("text of another author", text(x, 1), "abcd");
        check.thrown("delete(0, 1)", INDEX, () -> x.delete(0, 1));
        check.thrown("delete(0, -1)", INDEX, () -> x.delete(0, -1));
        check.thrown("delete(4, 0)", INDEX, () -> x.delete(4, 0));
        check.thrown("delete(-1, 0)", INDEX, () -> x.delete(-1, 0));
        // Two deletes of one letter take it away once.
        check.same("delete of the same letter", x.delete(1, 1), 7);
        x.learn(0, 1);
        check.same("text", text(x, 0), "c");
        check.same("the next delete", x.delete(0, 0), 8);
        check.same("text", text(x, 0), "");
    }

    private void promises2And3Full() {
        EditGraph x = full();
        check.same("events", x.events(), 60);
        check.thrown("insert of the 61st", STATE, () -> x.insert(0, 60, 0));
        check.thrown("insert of the 61st by another one", STATE, () -> x.insert(1, 0, 0));
        check.thrown("insert of no letter, full", ARGUMENT, () -> x.insert(0, 60, 26));
        check.thrown("insert at no place, full", INDEX, () -> x.insert(0, 61, 26));
        check.thrown("insert by no author, full", INDEX, () -> x.insert(4, 0, 0));
        check.thrown("delete of the 61st", STATE, () -> x.delete(0, 59));
        check.thrown("delete at no place, full", INDEX, () -> x.delete(0, 60));
        check.thrown("delete of an empty text, full", INDEX, () -> x.delete(1, 0));
        check.same("learn, full", x.learn(1, 0), 60);
        check.same("version, full", x.version(1), (1L << 60) - 1);
        check.same("critical, full", x.critical(1), (1L << 60) - 1);
        check.same("heads, full", x.heads(1), 1L << 59);
        check.same("runs, full", x.runs(1), 1);
        check.same("eventAt, full", x.eventAt(1, 59), 59);
        check.same("letterAt, full", x.letterAt(1, 59), 7);
        check.same("letterByList, full", x.letterByList(1, 59), 7);
        EditGraph ahead = new EditGraph();
        for (int event = 0; event < 60; event++) {
            ahead.insert(event % 4, 0, event % 26);
        }
        check.same("learn of 15", ahead.learn(0, 3), 15);
        check.same("first", ahead.eventAt(0, 0), 59);
        check.same("last", ahead.eventAt(0, 29), 0);
    }

    private void promise4Learn() {
        EditGraph x = new EditGraph();
        type(x, 0, 0, "ab");
        type(x, 1, 0, "c");
        check.same("learn of himself", x.learn(0, 0), 0);
        check.same("learn of one without events", x.learn(0, 3), 0);
        check.same("learn", x.learn(2, 0), 2);
        check.same("learn once more", x.learn(2, 0), 0);
        check.same("learn of the third", x.learn(2, 1), 1);
        check.same("learn of both", x.learn(0, 2), 1);
        check.same("version of the other one", x.version(1), 4L);
        check.same("version", x.version(0), 7L);
        check.same("text", text(x, 0), "cab");
        check.same("events", x.events(), 3);
        check.thrown("learn(0, 4)", INDEX, () -> x.learn(0, 4));
        check.thrown("learn(4, 0)", INDEX, () -> x.learn(4, 0));
        check.thrown("learn(-1, -1)", INDEX, () -> x.learn(-1, -1));
    }

    private void promise5LearnEvent() {
        EditGraph x = new EditGraph();
        type(x, 0, 0, "ab");
        type(x, 1, 0, "c");
        x.learn(1, 0);
        x.insert(1, 3, 3);
        check.same("learnEvent", x.learnEvent(2, 1), 2);
        check.same("version", x.version(2), 3L);
        check.same("learnEvent once more", x.learnEvent(2, 0), 0);
        check.same("learnEvent of a merge", x.learnEvent(2, 3), 2);
        check.same("version", x.version(2), 15L);
        check.same("learnEvent of his own", x.learnEvent(1, 3), 0);
        check.same("learnEvent of one", x.learnEvent(3, 2), 1);
        check.same("text", text(x, 3), "c");
        check.thrown("learnEvent(3, 4)", INDEX, () -> x.learnEvent(3, 4));
        check.thrown("learnEvent(3, -1)", INDEX, () -> x.learnEvent(3, -1));
        check.thrown("learnEvent(4, 0)", INDEX, () -> x.learnEvent(4, 0));
    }

    private void promise6Events() {
        EditGraph x = new EditGraph();
        x.insert(0, 0, 0);
        check.same("events", x.events(), 1);
        x.learn(1, 0);
        check.same("events after learn", x.events(), 1);
        x.delete(1, 0);
        check.same("events after delete", x.events(), 2);
    }

    private void promise7Length() {
        EditGraph x = new EditGraph();
        type(x, 2, 0, "abc");
        check.same("length", x.length(2), 3);
        x.delete(2, 0);
        check.same("length after delete", x.length(2), 2);
        check.same("length of another one", x.length(1), 0);
    }

    private void promises8To10Letters() {
        EditGraph x = new EditGraph();
        type(x, 0, 0, "ab");
        x.learn(1, 0);
        type(x, 0, 1, "cd");
        type(x, 1, 1, "ef");
        x.learn(0, 1);
        x.learn(1, 0);
        // e and c hang at a; e has the greater number, and what hangs at e follows it.
        check.same("text", text(x, 0), "aefcdb");
        check.same("text of the other one", text(x, 1), "aefcdb");
        int[] events = {0, 4, 5, 2, 3, 1};
        for (int place = 0; place < events.length; place++) {
            check.same("eventAt", x.eventAt(0, place), events[place]);
        }
        x.delete(0, 1);
        check.same("eventAt", x.eventAt(0, 1), 5);
        check.same("text", text(x, 0), "afcdb");
        check.same("text of the other one", text(x, 1), "aefcdb");
        for (int place : new int[] {-1, 6, Integer.MIN_VALUE, Integer.MAX_VALUE}) {
            check.thrown("letterAt", INDEX, () -> x.letterAt(1, place));
            check.thrown("letterByList", INDEX, () -> x.letterByList(1, place));
            check.thrown("eventAt", INDEX, () -> x.eventAt(1, place));
        }
    }

    private void promises11And12Versions() {
        EditGraph x = new EditGraph();
        type(x, 0, 0, "abc");
        x.learn(1, 0);
        x.delete(0, 1);
        x.insert(1, 0, 25);
        x.learn(0, 1);
        x.insert(0, 3, 24);
        check.same("text of 0", textOf(x, 0), "a");
        check.same("text of 2", textOf(x, 2), "abc");
        check.same("text of the delete", textOf(x, 3), "ac");
        check.same("text of the insert beside it", textOf(x, 4), "zabc");
        check.same("text of what follows both", textOf(x, 5), "zacy");
        check.thrown("letterOf(2, -1)", INDEX, () -> x.letterOf(2, -1));
        check.thrown("letterOf(2, 3)", INDEX, () -> x.letterOf(2, 3));
    }

    private void promise13LettersBy() {
        EditGraph x = new EditGraph();
        type(x, 0, 0, "abc");
        x.learn(1, 0);
        type(x, 1, 1, "xy");
        x.delete(1, 0);
        int[] due = {2, 2, 0, 0};
        for (int by = 0; by < 4; by++) {
            check.same("lettersBy(1, " + by + ")", x.lettersBy(1, by), due[by]);
        }
        check.same("lettersBy(0, 0)", x.lettersBy(0, 0), 3);
        check.same("lettersBy(0, 1)", x.lettersBy(0, 1), 0);
    }

    private void promises14To16Graph() {
        EditGraph x = new EditGraph();
        x.insert(2, 0, 0);
        x.learn(0, 2);
        x.insert(0, 0, 1);
        x.insert(2, 0, 2);
        x.learn(0, 2);
        x.delete(0, 0);
        x.insert(0, 0, 3);
        int[] authors = {2, 0, 2, 0, 0};
        long[] parents = {0L, 1L, 1L, 6L, 8L};
        for (int event = 0; event < 5; event++) {
            check.same("authorOf", x.authorOf(event), authors[event]);
            check.same("parents of " + event, x.parents(event), parents[event]);
        }
        String[] later = {".....", "x....", "x....", "xxx..", "xxxx."};
        for (int event = 0; event < 5; event++) {
            for (int other = 0; other < 5; other++) {
                String call = "isLater(" + event + ", " + other + ")";
                check.same(call, x.isLater(event, other), later[event].charAt(other) == 'x');
            }
        }
    }

    private void promises17And18VersionAndHeads() {
        EditGraph x = new EditGraph();
        x.insert(0, 0, 0);
        x.insert(1, 0, 1);
        x.insert(0, 0, 2);
        check.same("version", x.version(0), 5L);
        check.same("heads", x.heads(0), 4L);
        x.learn(0, 1);
        check.same("version", x.version(0), 7L);
        check.same("heads", x.heads(0), 6L);
        check.same("heads of the other one", x.heads(1), 2L);
        x.insert(0, 0, 3);
        check.same("parents", x.parents(3), 6L);
        check.same("heads", x.heads(0), 8L);
        check.same("version", x.version(0), 15L);
        check.same("version of one without events", x.version(3), 0L);
    }

    private void promise19CommonHeads() {
        EditGraph x = new EditGraph();
        x.insert(0, 0, 0);
        x.insert(1, 0, 1);
        check.same("commonHeads of nothing", x.commonHeads(0, 1), 0L);
        x.learn(2, 0);
        x.learn(2, 1);
        x.learn(3, 2);
        check.same("commonHeads", x.commonHeads(2, 3), 3L);
        x.insert(2, 0, 2);
        x.insert(3, 0, 3);
        // What follows the two is known by one of them only.
        check.same("commonHeads", x.commonHeads(2, 3), 3L);
        check.same("commonHeads", x.commonHeads(0, 2), 1L);
        check.same("commonHeads of one", x.commonHeads(2, 2), 4L);
        x.learn(3, 2);
        check.same("commonHeads", x.commonHeads(2, 3), 4L);
        check.same("commonHeads", x.commonHeads(3, 2), 4L);
    }

    private void promise20Concurrent() {
        EditGraph x = new EditGraph();
        type(x, 0, 0, "abc");
        check.same("concurrent of one author", x.concurrent(0), 0);
        type(x, 1, 0, "de");
        x.learn(2, 0);
        check.same("concurrent of what he knows", x.concurrent(2), 0);
        x.learn(2, 1);
        check.same("concurrent", x.concurrent(2), 6);
        x.insert(2, 0, 5);
        check.same("concurrent after a merge", x.concurrent(2), 6);
        check.same("concurrent of the others", x.concurrent(1), 0);
    }

    private void promises21And22Critical() {
        EditGraph x = new EditGraph();
        type(x, 0, 0, "ab");
        check.same("critical", x.critical(0), 3L);
        check.same("toReplay", x.toReplay(0), 0);
        x.learn(1, 0);
        type(x, 0, 2, "cd");
        type(x, 1, 2, "e");
        x.learn(0, 1);
        check.same("critical ahead of two branches", x.critical(0), 3L);
        check.same("toReplay", x.toReplay(0), 3);
        check.same("critical of one branch", x.critical(1), 19L);
        check.same("toReplay of one branch", x.toReplay(1), 0);
        x.insert(0, 0, 5);
        check.same("critical after a merge", x.critical(0), 35L);
        check.same("toReplay after a merge", x.toReplay(0), 0);
        x.learnEvent(3, 0);
        x.insert(3, 0, 7);
        x.learn(3, 0);
        check.same("critical is the first one only", x.critical(3), 1L);
        check.same("toReplay of all but the first one", x.toReplay(3), 6);
        x.insert(2, 0, 6);
        x.learn(0, 2);
        check.same("no critical one", x.critical(0), 0L);
        check.same("toReplay of all", x.toReplay(0), 7);
    }

    private void promise23Runs() {
        EditGraph x = new EditGraph();
        type(x, 0, 0, "abc");
        check.same("runs of typing on", x.runs(0), 1);
        x.insert(0, 0, 3);
        check.same("runs after an insert elsewhere", x.runs(0), 2);
        x.insert(0, 1, 4);
        check.same("runs, typing on there", x.runs(0), 2);
        x.delete(0, 4);
        check.same("runs after a delete", x.runs(0), 3);
        x.insert(0, 2, 5);
        // It hangs at the letter of event 4, but its parent is the delete.
        check.same("runs after the delete", x.runs(0), 4);
        x.learn(1, 0);
        x.insert(1, 3, 6);
        check.same("runs, typed on by another one", x.runs(1), 5);
        check.same("runs of the first one", x.runs(0), 4);
        x.learn(0, 1);
        x.insert(2, 0, 7);
        x.learn(0, 2);
        x.insert(0, 4, 8);
        check.same("runs after a merge", x.runs(0), 7);
        runsBesideEachOther();
    }

    private void runsBesideEachOther() {
        EditGraph x = new EditGraph();
        x.insert(0, 0, 0);
        x.learn(1, 0);
        // Both hang at the letter of the only parent, but only one is of its author.
        x.insert(1, 1, 1);
        x.insert(0, 1, 2);
        x.insert(1, 2, 3);
        x.learn(2, 0);
        x.learn(2, 1);
        check.same("runs", x.runs(2), 2);
        x.delete(0, 1);
        x.delete(0, 0);
        check.same("runs with deletes", x.runs(0), 3);
        // Who knows only a part of a run counts that part.
        x.learnEvent(3, 1);
        check.same("runs of a part", x.runs(3), 2);
    }

    private void noSuchAuthor() {
        EditGraph x = new EditGraph();
        x.insert(0, 0, 0);
        for (int no : NO_AUTHORS) {
            check.thrown("insert", INDEX, () -> x.insert(no, 0, 0));
            check.thrown("delete", INDEX, () -> x.delete(no, 0));
            check.thrown("learn", INDEX, () -> x.learn(no, 0));
            check.thrown("learn", INDEX, () -> x.learn(1, no));
            check.thrown("learnEvent", INDEX, () -> x.learnEvent(no, 0));
            check.thrown("length", INDEX, () -> x.length(no));
            check.thrown("letterAt", INDEX, () -> x.letterAt(no, 0));
            check.thrown("letterByList", INDEX, () -> x.letterByList(no, 0));
            check.thrown("eventAt", INDEX, () -> x.eventAt(no, 0));
            check.thrown("lettersBy", INDEX, () -> x.lettersBy(no, 0));
            check.thrown("lettersBy", INDEX, () -> x.lettersBy(0, no));
            check.thrown("version", INDEX, () -> x.version(no));
            check.thrown("heads", INDEX, () -> x.heads(no));
            check.thrown("commonHeads", INDEX, () -> x.commonHeads(no, 0));
            check.thrown("commonHeads", INDEX, () -> x.commonHeads(0, no));
            check.thrown("concurrent", INDEX, () -> x.concurrent(no));
            check.thrown("critical", INDEX, () -> x.critical(no));
            check.thrown("toReplay", INDEX, () -> x.toReplay(no));
            check.thrown("runs", INDEX, () -> x.runs(no));
        }
    }

    private void noSuchEvent() {
        EditGraph x = new EditGraph();
        x.insert(0, 0, 0);
        for (int no : new int[] {-1, 1, 60, 64, Integer.MIN_VALUE, Integer.MAX_VALUE}) {
            check.thrown("learnEvent", INDEX, () -> x.learnEvent(1, no));
            check.thrown("lengthOf", INDEX, () -> x.lengthOf(no));
            check.thrown("letterOf", INDEX, () -> x.letterOf(no, 0));
            check.thrown("letterOf", INDEX, () -> x.letterOf(0, no));
            check.thrown("authorOf", INDEX, () -> x.authorOf(no));
            check.thrown("parents", INDEX, () -> x.parents(no));
            check.thrown("isLater", INDEX, () -> x.isLater(no, 0));
            check.thrown("isLater", INDEX, () -> x.isLater(0, no));
        }
    }
}
