import java.util.ArrayList;
import java.util.List;

/** Compares the class with the plain model, call by call, over runs that are the same each time. */
public final class ModelTest {
    private static final int RUNS = 80;

    private final Check check;
    private final int run;
    private final Draw draw;

    private ModelTest(Check check, int run) {
        this.check = check;
        this.run = run;
        draw = new Draw(run);
    }

    public static void main(String[] args) {
        Check check = new Check();
        for (int run = 0; run < RUNS; run++) {
            new ModelTest(check, run).compare();
        }
        check.finish();
    }

    private void compare() {
        EditGraph graph = new EditGraph();
        PlainModel model = new PlainModel();
        List<Call> edits = new ArrayList<>();
        // Runs that edit seldom stay far from the 60 events, and have more to exchange.
        int editShare = 5 + run % 8 * 10;
        for (int number = 1; number <= Questions.MOST_CALLS; number++) {
            Call call = drawCall(editShare, model);
            String told = "promise " + call.promise() + ", run " + run + ", call " + number + ": " + call;
            String due = call.answer(model);
            check.same(told, call.answer(graph), due);
            if (Call.EDITS.contains(call.name()) && !due.startsWith("throws.")) {
                edits.add(call);
            }
            // All questions are dear to ask the model, so not behind every call.
            if (number == 64 || number == 160 || number == Questions.MOST_CALLS) {
                List<Call> all = Questions.about(model.events());
                check.sameLines("all after " + told, Questions.answers(edits, all), Questions.modelAnswers(model, all));
            }
        }
    }

    /** From 0 to bound - 1, but now and then one outside. */
    private int about(int bound) {
        switch (draw.below(40)) {
            case 0: return -1;
            case 1: return bound;
            case 2: return draw.below(2) == 0 ? Integer.MIN_VALUE : Integer.MAX_VALUE;
            default: return bound <= 0 ? 0 : draw.below(bound);
        }
    }

    private Call drawCall(int editShare, PlainModel model) {
        boolean edits = draw.below(100) < editShare;
        int author = about(4);
        int length = author >= 0 && author < 4 ? model.length(author) : 0;
        String name = edits ? editName() : Call.QUESTIONS.get(draw.below(Call.QUESTIONS.size()));
        return new Call(name, numbersFor(name, author, length, model.events()));
    }

    private String editName() {
        int drawn = draw.below(10);
        return drawn < 5 ? "insert" : drawn < 7 ? "delete" : drawn < 9 ? "learn" : "learnEvent";
    }

    private int[] numbersFor(String name, int author, int length, int events) {
        switch (name) {
            case "events":
                return new int[] {};
            case "insert":
                // Typing on at the end makes the longer runs.
                return new int[] {author, draw.below(2) == 0 ? length : about(length + 1), about(26)};
            case "delete":
            case "letterAt":
            case "letterByList":
            case "eventAt":
                return new int[] {author, about(length)};
            case "learn":
            case "lettersBy":
            case "commonHeads":
                return new int[] {author, about(4)};
            case "learnEvent":
                return new int[] {author, about(events)};
            case "lengthOf":
            case "authorOf":
            case "parents":
                return new int[] {about(events)};
            case "letterOf":
            case "isLater":
                return new int[] {about(events), about(events)};
            default:
                return new int[] {author};
        }
    }
}
