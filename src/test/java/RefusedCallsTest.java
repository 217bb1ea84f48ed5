import java.util.ArrayList;
import java.util.Arrays;
import java.util.List;

/** Each call that is refused: which exception comes, and that all later answers are as without it. */
public final class RefusedCallsTest {
    /** The calls in the order of the promises, 2 being the first, and what their arguments are. */
    private static final String[] CALLS = {
        "insert author place letter", "delete author place", "learn author author", "learnEvent author event",
        "events", "length author", "letterAt author place", "letterByList author place", "eventAt author place",
        "lengthOf event", "letterOf event place", "lettersBy author author", "authorOf event", "parents event",
        "isLater event event", "version author", "heads author", "commonHeads author author", "concurrent author",
        "critical author", "toReplay author", "runs author"};

    /** What is done after a refused call, so that what it broke out of sight comes to light. */
    private static final List<Call> GOING_ON = Call.listOf("insert 0 0 1; insert 1 0 2; learn 2 0; learn 2 1;"
        + "insert 2 1 3; delete 2 0; learnEvent 3 0; insert 3 0 4; learn 0 2; learn 0 3; insert 0 1 5; learn 1 3");

    private static final int REFUSED_AT_ONCE = 100;

    private final Check check = new Check();

    private RefusedCallsTest() {
    }

    public static void main(String[] args) {
        RefusedCallsTest test = new RefusedCallsTest();
        for (Graphs.Graph graph : Graphs.named()) {
            test.lookAt(graph.name(), graph.calls());
        }
        test.lookAtThe512thCall();
        test.check.finish();
    }

    private static PlainModel modelAfter(List<Call> calls) {
        PlainModel model = new PlainModel();
        for (Call call : calls) {
            call.answer(model);
        }
        return model;
    }

    private void lookAt(String state, List<Call> ahead) {
        PlainModel model = new PlainModel();
        for (Call call : ahead) {
            check.same(state + ": " + call + " throws", call.answer(model).startsWith("throws."), false);
        }
        Behind behind = new Behind(ahead);
        for (int i = 0; i < CALLS.length; i++) {
            String told = "promise " + (i + 2) + ", " + state + ": ";
            List<Call> refused = refusedOf(CALLS[i].split(" "), model);
            check.same(told + "a call is refused", refused.isEmpty(), CALLS[i].equals("events"));
            for (int from = 0; from < refused.size(); from += REFUSED_AT_ONCE) {
                int to = Math.min(from + REFUSED_AT_ONCE, refused.size());
                behind.compare(told, refused.subList(from, to), model);
            }
        }
    }

    /** All calls of a kind, their arguments being those about the bounds, that the model refuses. */
    private static List<Call> refusedOf(String[] kind, PlainModel model) {
        List<int[]> drawn = new ArrayList<>();
        drawn.add(new int[] {});
        for (int i = 1; i < kind.length; i++) {
            List<int[]> longer = new ArrayList<>();
            for (int[] begun : drawn) {
                for (int number : numbersAbout(kind[i], model)) {
                    int[] numbers = Arrays.copyOf(begun, i);
                    numbers[i - 1] = number;
                    longer.add(numbers);
                }
            }
            drawn = longer;
        }
        List<Call> refused = new ArrayList<>();
        for (int[] numbers : drawn) {
            Call call = new Call(kind[0], numbers);
            if (isRefused(call, model)) {
                refused.add(call);
            }
        }
        return refused;
    }

    /** Asked without being made: the model is the same afterwards. */
    private static boolean isRefused(Call call, PlainModel model) {
        return call.answer(model.copy()).startsWith("throws.");
    }

    private static int[] numbersAbout(String argument, PlainModel model) {
        int events = model.events();
        return switch (argument) {
            case "author" -> new int[] {Integer.MIN_VALUE, -1, 0, 1, 3, 4, Integer.MAX_VALUE};
            case "letter" -> new int[] {Integer.MIN_VALUE, -1, 0, 25, 26, Integer.MAX_VALUE};
            case "event" -> new int[] {Integer.MIN_VALUE, -1, 0, events - 1, events, 60, 64, Integer.MAX_VALUE};
            default -> new int[] {Integer.MIN_VALUE, -1, 0, model.length(0), model.length(0) + 1, 60, 61,
                Integer.MAX_VALUE};
        };
    }

    /** What is answered behind a state, at once and after going on, without a refused call. */
    private final class Behind {
        private final List<Call> ahead;
        private final List<Call> atOnce;
        private final List<Call> afterGoingOn;
        private final List<String> dueAtOnce;
        private final List<String> dueGoingOn;
        private final List<String> dueAfterGoingOn;

        Behind(List<Call> ahead) {
            this.ahead = ahead;
            List<Call> goneOn = Graphs.joined(ahead, GOING_ON);
            atOnce = Questions.about(modelAfter(ahead).events());
            afterGoingOn = Questions.about(modelAfter(goneOn).events());
            dueAtOnce = Questions.answers(ahead, atOnce);
            dueGoingOn = Questions.answers(ahead, GOING_ON);
            dueAfterGoingOn = Questions.answers(goneOn, afterGoingOn);
        }

        void compare(String told, List<Call> refused, PlainModel model) {
            List<String> got = Questions.answers(ahead, refused);
            check.sameLines(told + "refused", got, Questions.modelAnswers(model, refused));
            List<Call> withRefused = Graphs.joined(ahead, refused);
            String behind = told + "behind " + refused.get(0) + " and its like";
            check.sameLines(behind + " at once", Questions.answers(withRefused, atOnce), dueAtOnce);
            check.sameLines(behind + " going on", Questions.answers(withRefused, GOING_ON), dueGoingOn);
            List<Call> goneOn = Graphs.joined(withRefused, GOING_ON);
            check.sameLines(behind + " after going on", Questions.answers(goneOn, afterGoingOn), dueAfterGoingOn);
        }
    }

    /** The last call that is promised answers as any other one, the graph being full. */
    private void lookAtThe512thCall() {
        List<Call> ahead = Graphs.fullOfFourRows("learn 1 0; learn 1 2; learnEvent 2 59");
        List<Call> questions = Questions.about(60);
        while (ahead.size() < Questions.MOST_CALLS - 1) {
            ahead.add(questions.get(ahead.size() * 7));
        }
        PlainModel model = modelAfter(ahead);
        for (int i = 0; i < questions.size(); i += 11) {
            List<Call> last = questions.subList(i, i + 1);
            check.sameLines("promises 1 to 23, the 512th call", Questions.answers(ahead, last),
                Questions.modelAnswers(model, last));
        }
    }
}
