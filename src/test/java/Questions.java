import java.util.ArrayList;
import java.util.List;

/** All that can be asked without changing anything. */
final class Questions {
    /** What later calls of an object answer is free, so no test looks at it. */
    static final int MOST_CALLS = 512;

    private static final String[] BY_AUTHOR = {
        "length", "version", "heads", "concurrent", "critical", "toReplay", "runs"};
    private static final String[] BY_TWO_AUTHORS = {"lettersBy", "commonHeads"};
    private static final String[] BY_AUTHOR_AND_PLACE = {"letterAt", "letterByList", "eventAt"};
    private static final String[] BY_EVENT = {"lengthOf", "authorOf", "parents"};

    private Questions() {
    }

    /** Every question about a graph of so many events, and those just outside. */
    static List<Call> about(int events) {
        List<Call> questions = new ArrayList<>();
        questions.add(new Call("events"));
        for (int author = -1; author <= 4; author++) {
            addAboutAuthor(questions, author, events);
        }
        for (int event = -1; event <= events; event++) {
            addAboutEvent(questions, event, events);
        }
        return questions;
    }

    private static void addAboutAuthor(List<Call> questions, int author, int events) {
        for (String name : BY_AUTHOR) {
            questions.add(new Call(name, author));
        }
        for (String name : BY_TWO_AUTHORS) {
            for (int other = -1; other <= 4; other++) {
                questions.add(new Call(name, author, other));
            }
        }
        for (String name : BY_AUTHOR_AND_PLACE) {
            for (int place = -1; place <= events; place++) {
                questions.add(new Call(name, author, place));
            }
        }
    }

    private static void addAboutEvent(List<Call> questions, int event, int events) {
        for (String name : BY_EVENT) {
            questions.add(new Call(name, event));
        }
        for (int other = -1; other <= events; other++) {
            questions.add(new Call("letterOf", event, other));
            questions.add(new Call("isLater", event, other));
        }
    }

    /** What the class answers behind the calls ahead, from as many new objects as 512 calls each ask for. */
    static List<String> answers(List<Call> ahead, List<Call> questions) {
        if (ahead.size() >= MOST_CALLS) {
            throw new IllegalArgumentException("no call is left to ask with");
        }
        List<String> answers = new ArrayList<>();
        while (answers.size() < questions.size()) {
            EditGraph graph = new EditGraph();
            for (Call call : ahead) {
                call.answer(graph);
            }
            int left = MOST_CALLS - ahead.size();
            while (left > 0 && answers.size() < questions.size()) {
                answers.add(told(questions.get(answers.size()), graph));
                left--;
            }
        }
        return answers;
    }

    static List<String> modelAnswers(PlainModel model, List<Call> questions) {
        List<String> answers = new ArrayList<>();
        for (Call question : questions) {
            answers.add(told(question, model));
        }
        return answers;
    }

    private static String told(Call question, Object asked) {
        return "promise " + question.promise() + ", " + question + " = " + question.answer(asked);
    }
}
