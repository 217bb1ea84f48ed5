import java.util.ArrayList;
import java.util.List;

/** What the class answers behind some calls, however much is asked: behind 512 calls a new object takes over. */
final class State {
    private final List<Call> ahead;
    private EditGraph graph;
    private int callsLeft = 0;

    State(List<Call> ahead) {
        if (ahead.size() >= Questions.MOST_CALLS) {
            throw new IllegalArgumentException("no call is left to ask with");
        }
        this.ahead = List.copyOf(ahead);
    }

    private String answer(Call question) {
        if (callsLeft == 0) {
            graph = made();
            callsLeft = Questions.MOST_CALLS - ahead.size();
        }
        callsLeft--;
        return question.answer(graph);
    }

    private EditGraph made() {
        EditGraph made = new EditGraph();
        for (Call call : ahead) {
            call.answer(made);
        }
        return made;
    }

    /** Of one call more, which may change the graph, so it is made on an object of its own. */
    String answerOfOneMore(Call call) {
        return call.answer(made());
    }

    long set(String name, int... numbers) {
        Call question = new Call(name, numbers);
        String answer = answer(question);
        if (answer.startsWith("throws.")) {
            throw new IllegalStateException(question + " " + answer);
        }
        return Long.parseLong(answer);
    }

    int number(String name, int... numbers) {
        return (int) set(name, numbers);
    }

    boolean isLater(int event, int other) {
        return answer(new Call("isLater", event, other)).equals("true");
    }

    /** The events of an author's letters, the first one's first. */
    List<Integer> eventsOfText(int author) {
        List<Integer> events = new ArrayList<>();
        int length = number("length", author);
        for (int place = 0; place < length; place++) {
            events.add(number("eventAt", author, place));
        }
        return events;
    }

    /** The letters of an author's text as letterAt or letterByList tells them. */
    List<Integer> letters(String name, int author) {
        List<Integer> letters = new ArrayList<>();
        int length = number("length", author);
        for (int place = 0; place < length; place++) {
            letters.add(number(name, author, place));
        }
        return letters;
    }

    List<Integer> lettersOf(int event) {
        List<Integer> letters = new ArrayList<>();
        int length = number("lengthOf", event);
        for (int place = 0; place < length; place++) {
            letters.add(number("letterOf", event, place));
        }
        return letters;
    }
}
