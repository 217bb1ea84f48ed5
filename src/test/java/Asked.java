/** A new object and what it is asked in one test, which is named where an answer is not as due. */
final class Asked {
    /** What no call takes as an author, 0 to 3 being taken. */
    static final String[] NO_AUTHORS = {"-1", "4", "min", "max"};

    private final Check check;
    private final String test;
    private final EditGraph graph = new EditGraph();
    private int calls = 0;

    Asked(Check check, String test) {
        this.check = check;
        this.test = test;
    }

    private String answer(Call call) {
        calls++;
        if (calls > Questions.MOST_CALLS) {
            throw new IllegalStateException("the test asks one object more than 512 calls");
        }
        return call.answer(graph);
    }

    /** Makes calls whose answers are not looked at, but none of them may throw. */
    Asked after(String text) {
        for (Call call : Call.listOf(text)) {
            String got = answer(call);
            check.same(test + ": " + call + " throws", got.startsWith("throws."), false);
        }
        return this;
    }

    /** Inserts letter behind letter, from a place on; a stands for 0. */
    Asked type(int author, int place, String letters) {
        for (int i = 0; i < letters.length(); i++) {
            after("insert " + author + " " + (place + i) + " " + (letters.charAt(i) - 'a'));
        }
        return this;
    }

    /** Makes one call, or several with the same answer, a ; between them. */
    Asked due(String text, Object due) {
        for (Call call : Call.listOf(text)) {
            check.same(test + ": " + call, answer(call), due);
        }
        return this;
    }

    /** A call with no author in the place of a #. */
    Asked dueWithoutAuthor(String text) {
        for (String no : NO_AUTHORS) {
            due(text.replace("#", no), Call.INDEX);
        }
        return this;
    }

    /** A call with no event in the place of a #, when there are so many events. */
    Asked dueWithoutEvent(String text, int events) {
        for (String no : new String[] {"-1", String.valueOf(events), "60", "63", "64", "min", "max"}) {
            due(text.replace("#", no), Call.INDEX);
        }
        return this;
    }

    /** A call with no letter's place in the place of a #, when the text has so many letters. */
    Asked dueWithoutPlace(String text, int length) {
        for (String no : new String[] {"-1", String.valueOf(length), String.valueOf(length + 1), "min", "max"}) {
            due(text.replace("#", no), Call.INDEX);
        }
        return this;
    }

    /** The text of an author as both ways to ask tell it, and no letter ahead of it or behind it. */
    Asked dueText(int author, String text) {
        due("length " + author, text.length());
        for (int place = 0; place < text.length(); place++) {
            due("letterAt " + author + " " + place, text.charAt(place) - 'a');
            due("letterByList " + author + " " + place, text.charAt(place) - 'a');
        }
        dueWithoutPlace("letterAt " + author + " #", text.length());
        return dueWithoutPlace("letterByList " + author + " #", text.length());
    }

    /** The text of the version of an event. */
    Asked dueTextOf(int event, String text) {
        due("lengthOf " + event, text.length());
        for (int place = 0; place < text.length(); place++) {
            due("letterOf " + event + " " + place, text.charAt(place) - 'a');
        }
        return dueWithoutPlace("letterOf " + event + " #", text.length());
    }

    /** Inserts as many letters by one author, each behind the one before: a single row. */
    Asked row(int author, int letters) {
        for (int place = 0; place < letters; place++) {
            after("insert " + author + " " + place + " " + place % 26);
        }
        return this;
    }

    /** The graph full: 15 letters by each author in turn, and nobody knows another one's. */
    Asked fullOfFourRows() {
        for (int event = 0; event < 60; event++) {
            after("insert " + event % 4 + " " + event / 4 + " " + event % 26);
        }
        return this;
    }
}
