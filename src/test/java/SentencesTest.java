import java.util.ArrayList;
import java.util.List;

/**
 * Sentences of the document, each quoted ahead of its test, as what must hold between the answers to several
 * calls, in graphs of many kinds. What a call tells is asked; only what an edit was made of is kept by History.
 */
public final class SentencesTest extends PromiseCases {
    private interface AboutStep {
        void look(Step step);
    }

    private interface AboutAuthor {
        void look(History history, int author, String told);
    }

    private interface AboutEvent {
        void look(History history, int event, String told);
    }

    private final List<History> made = new ArrayList<>();

    private SentencesTest() {
    }

    public static void main(String[] args) throws IllegalAccessException {
        new SentencesTest().runAll();
    }

    /** Made in the first test, not ahead of it, so that a graph that can't be made is told with a promise. */
    private List<History> histories() {
        if (made.isEmpty()) {
            List<History> all = new ArrayList<>();
            for (Graphs.Graph graph : Graphs.all()) {
                all.add(new History(graph));
            }
            made.addAll(all);
        }
        return made;
    }

    private void eachStep(AboutStep about) {
        for (History history : histories()) {
            history.steps.forEach(about::look);
        }
    }

    private void eachEdit(AboutStep about) {
        for (History history : histories()) {
            history.edits().forEach(about::look);
        }
    }

    private void eachAuthor(AboutAuthor about) {
        for (History history : histories()) {
            for (int author = 0; author < 4; author++) {
                about.look(history, author, history.name + ", author " + author);
            }
        }
    }

    private void eachEvent(AboutEvent about) {
        for (History history : histories()) {
            for (int event = 0; event < history.events(); event++) {
                about.look(history, event, history.name + ", event " + event);
            }
        }
    }

    private void same(String told, Object got, Object due) {
        check().same(running() + ": " + told, got, due);
    }

    // ---- what a call changes

    /** "Events are numbered from 0, at most 60." "Returns the number of the event." */
    void promises2And3EventsAreNumberedFrom0() {
        for (History history : histories()) {
            for (int event = 0; event < history.events(); event++) {
                Step edit = history.edits().get(event);
                same(edit.told, edit.answer, event);
            }
        }
    }

    /** "Returns how many events there are." */
    void promise6InsertsAndDeletesAreCounted() {
        eachStep(step -> {
            int due = step.before.number("events") + (step.isEdit() ? 1 : 0);
            same(step.told + ", events", step.after.number("events"), due);
        });
    }

    /** "An event is [...] made by an author, who knows it then." */
    void promises2And3And17WhoMakesAnEventKnowsIt() {
        eachEdit(edit -> {
            for (int author = 0; author < 4; author++) {
                long due = edit.before.set("version", author) | (author == edit.author ? 1L << edit.answer : 0L);
                same(edit.told + ", version " + author, edit.after.set("version", author), due);
            }
        });
    }

    /** "Its parents are those events that its author knew then and that were the parent of no other event [...]." */
    void promises15And18ParentsAreTheHeadsAheadOfTheEvent() {
        eachEdit(edit -> {
            long due = headsIn(edit.before, edit.before.set("version", edit.author));
            same(edit.told + ", parents", edit.after.set("parents", edit.answer), due);
            same(edit.told + ", heads ahead of it", edit.before.set("heads", edit.author), due);
            same(edit.told + ", heads behind it", edit.after.set("heads", edit.author), 1L << edit.answer);
        });
    }

    private static long headsIn(State state, long version) {
        long parents = 0L;
        for (int event : History.eventsIn(version)) {
            parents |= state.set("parents", event);
        }
        return version & ~parents;
    }

    /** "Inserts a letter into the text of an author." The newest of those that hang at a letter is right behind it. */
    void promise2TheLetterStandsAtItsPlace() {
        eachEdit(edit -> {
            if (edit.isInsert()) {
                List<Integer> due = edit.before.eventsOfText(edit.author);
                due.add(edit.place, edit.answer);
                same(edit.told + ", text", edit.after.eventsOfText(edit.author), due);
                same(edit.told + ", letter", edit.after.number("letterAt", edit.author, edit.place), edit.letter);
            }
        });
    }

    /** "A delete at a place p, 0 to the length less 1, takes the letter with the number p away." */
    void promise3TheLetterWithTheNumberOfThePlaceGoes() {
        eachEdit(edit -> {
            if (!edit.isInsert()) {
                List<Integer> due = edit.before.eventsOfText(edit.author);
                due.remove(edit.place);
                same(edit.told + ", text", edit.after.eventsOfText(edit.author), due);
            }
        });
    }

    /** "The text of a version has the letters of the inserts in it [...]": nobody else's text changes. */
    void promises2To5NoOtherTextChanges() {
        eachStep(step -> {
            for (int author = 0; author < 4; author++) {
                if (author != step.author) {
                    List<Integer> due = step.before.eventsOfText(author);
                    same(step.told + ", text of " + author, step.after.eventsOfText(author), due);
                }
            }
        });
    }

    /** "Lets an author learn all events that another one knows." "Returns how many of them are new to the author." */
    void promise4AllEventsOfTheOtherOneAreLearned() {
        eachStep(step -> {
            if (step.is("learn")) {
                lookAtLearning(step, step.before.set("version", step.call.numbers()[1]));
            }
        });
    }

    /** "Lets an author learn the version of an event." "The version of an event is the event and its ancestors." */
    void promise5TheVersionOfAnEventIsLearned() {
        eachStep(step -> {
            if (step.is("learnEvent")) {
                lookAtLearning(step, versionOf(step.before, step.call.numbers()[1]));
            }
        });
    }

    private void lookAtLearning(Step step, long learned) {
        long known = step.before.set("version", step.author);
        same(step.told, step.answer, Long.bitCount(learned & ~known));
        for (int author = 0; author < 4; author++) {
            long due = author == step.author ? known | learned : step.before.set("version", author);
            same(step.told + ", version " + author, step.after.set("version", author), due);
        }
    }

    /** The same of every event of the graph, also of those that nobody in it learns alone. */
    void promise5EachEventBringsItselfAndItsAncestors() {
        eachEvent((history, event, told) -> {
            long known = history.end.set("version", 3);
            long due = known | versionOf(history.end, event);
            Call learn = new Call("learnEvent", 3, event);
            same(told + ": " + learn, history.end.answerOfOneMore(learn), Long.bitCount(due & ~known));
            same(told + ": version 3 behind it", history.behind(learn).set("version", 3), due);
        });
    }

    private static long versionOf(State state, int event) {
        long version = 1L << event;
        for (int other = 0; other < state.number("events"); other++) {
            version |= state.isLater(event, other) ? 1L << other : 0L;
        }
        return version;
    }

    // ---- texts

    /** "The order of all letters is this [...]." "The text of a version has the letters of the inserts in it [...]." */
    void promises7And8And10ATextHasItsLettersInTheirOrder() {
        eachAuthor((history, author, told) -> {
            List<Integer> due = history.textOf(history.end.set("version", author));
            same(told + ": length", history.end.number("length", author), due.size());
            same(told + ": events of the text", history.end.eventsOfText(author), due);
            same(told + ": letters", history.end.letters("letterAt", author), history.lettersOf(due));
        });
    }

    /** "Returns the same, found by laying the letters of all inserts that the author knows [...]." */
    void promise9TheListHasTheSameLetters() {
        eachAuthor((history, author, told) -> {
            List<Integer> due = history.end.letters("letterAt", author);
            same(told, history.end.letters("letterByList", author), due);
        });
    }

    /** "Returns the event that has made a letter of the text of an author." */
    void promises8And10TheEventHasMadeTheLetter() {
        eachAuthor((history, author, told) -> {
            List<Integer> due = history.lettersOf(history.end.eventsOfText(author));
            same(told, history.end.letters("letterAt", author), due);
        });
    }

    /** "Returns the length [...]." "Returns a letter of the text of the version of an event." */
    void promises11And12TheTextOfTheVersionOfAnEvent() {
        eachEvent((history, event, told) -> {
            List<Integer> due = history.lettersOf(history.textOf(versionOf(history.end, event)));
            same(told + ": length", history.end.number("lengthOf", event), due.size());
            same(told + ": letters", history.end.lettersOf(event), due);
        });
    }

    /** "The version of an event is the event and its ancestors": all that its author knew when he had made it. */
    void promises11And12TheTextIsTheOneThatItsAuthorSaw() {
        for (History history : histories()) {
            for (Step edit : history.edits()) {
                List<Integer> due = edit.after.letters("letterAt", edit.author);
                same(edit.told + ", text at once", edit.after.lettersOf(edit.answer), due);
                same(edit.told + ", text in the end", history.end.lettersOf(edit.answer), due);
            }
        }
    }

    /** "Returns how many letters of the text of an author were made by an author." */
    void promise13LettersOfTheTextAreCountedByTheirMakers() {
        eachAuthor((history, author, told) -> {
            int[] due = new int[4];
            for (int event : history.end.eventsOfText(author)) {
                due[history.end.number("authorOf", event)]++;
            }
            for (int by = 0; by < 4; by++) {
                same(told + ": letters by " + by, history.end.number("lettersBy", author, by), due[by]);
            }
        });
    }

    // ---- the graph

    /** "Returns the author of an event." "Returns the parents of an event." They stay what they were at first. */
    void promises14And15AuthorAndParentsStay() {
        for (History history : histories()) {
            for (Step edit : history.edits()) {
                same(edit.told + ", author", edit.after.number("authorOf", edit.answer), edit.author);
                same(edit.told + ", author in the end", history.end.number("authorOf", edit.answer), edit.author);
                long due = edit.after.set("parents", edit.answer);
                same(edit.told + ", parents in the end", history.end.set("parents", edit.answer), due);
            }
        }
    }

    /** "The ancestors of an event are its parents, and the ancestors of these." */
    void promises15And16LaterThanParentsAndTheirAncestors() {
        eachEvent((history, event, told) -> {
            List<Integer> parents = History.eventsIn(history.end.set("parents", event));
            for (int other = 0; other < history.events(); other++) {
                boolean due = parents.contains(other);
                for (int parent : parents) {
                    due |= history.end.isLater(parent, other);
                }
                same(told + ": later than " + other, history.end.isLater(event, other), due);
            }
        });
    }

    /** "Whoever knows an event knows all its ancestors." "A version [...] has with each event all its ancestors." */
    void promises15And17AVersionHasAllAncestors() {
        eachAuthor((history, author, told) -> {
            long version = history.end.set("version", author);
            for (int event : History.eventsIn(version)) {
                same(told + ": missing behind " + event, history.end.set("parents", event) & ~version, 0);
            }
        });
    }

    /** "Returns the events that would be the parents of the next event of an author." */
    void promises15And18TheNextEventHasTheHeadsAsParents() {
        eachAuthor((history, author, told) -> {
            if (history.events() < 60) {
                State behind = history.behind(new Call("insert", author, 0, 0));
                same(told, history.end.set("heads", author), behind.set("parents", history.events()));
            }
        });
    }

    /** "The heads of what two authors both know: those events of it that are the parent of no other one of it." */
    void promise19CommonHeadsAreTheHeadsOfWhatBothKnow() {
        eachAuthor((history, author, told) -> {
            for (int other = 0; other < 4; other++) {
                long both = history.end.set("version", author) & history.end.set("version", other);
                long got = history.end.set("commonHeads", author, other);
                same(told + ": heads in common with " + other, got, headsIn(history.end, both));
            }
        });
    }

    /** "Two events, neither of which is later than the other one, are concurrent." */
    void promise20PairsNeitherOfWhichIsLater() {
        eachAuthor((history, author, told) -> {
            int due = 0;
            List<Integer> known = History.eventsIn(history.end.set("version", author));
            for (int event : known) {
                for (int other : known) {
                    due += other < event && !oneIsLater(history.end, event, other) ? 1 : 0;
                }
            }
            same(told, history.end.number("concurrent", author), due);
        });
    }

    private static boolean oneIsLater(State state, int event, int other) {
        return state.isLater(event, other) || state.isLater(other, event);
    }

    // ---- critical events and runs

    /** "Of the events that an author knows one is critical if each other one of them is its ancestor, or is later." */
    void promise21EachOtherOneIsAnAncestorOrLater() {
        eachAuthor((history, author, told) -> {
            long due = 0L;
            List<Integer> known = History.eventsIn(history.end.set("version", author));
            for (int event : known) {
                boolean critical = true;
                for (int other : known) {
                    critical &= other == event || oneIsLater(history.end, event, other);
                }
                due |= critical ? 1L << event : 0L;
            }
            same(told, history.end.set("critical", author), due);
        });
    }

    /** "Those that are not in the version of the critical event with the greatest number, all if none is critical." */
    void promise22WhatIsNotInTheVersionOfTheGreatestCriticalEvent() {
        eachAuthor((history, author, told) -> {
            List<Integer> critical = History.eventsIn(history.end.set("critical", author));
            long settled = critical.isEmpty() ? 0L : versionOf(history.end, critical.get(critical.size() - 1));
            long due = history.end.set("version", author) & ~settled;
            same(told, history.end.number("toReplay", author), Long.bitCount(due));
        });
    }

    /** "A run [...] is one event, or a row of them in which each one but the first has the one before [...]." */
    void promise23RowsAsLongAsTheyCanBe() {
        eachAuthor((history, author, told) -> {
            int due = history.runsOf(history.end.set("version", author));
            same(told, history.end.number("runs", author), due);
        });
    }
}
