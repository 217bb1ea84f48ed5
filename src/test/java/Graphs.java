import java.util.ArrayList;
import java.util.List;

/** Graphs of events of many kinds, as the calls that make them; none of these calls is refused. */
final class Graphs {
    private static final int DRAWN = 16;
    private static final int DRAWN_CALLS = 160;

    record Graph(String name, List<Call> calls) {
    }

    private Graphs() {
    }

    /** The smallest and the fullest ones, and one that forks and merges. */
    static List<Graph> named() {
        return List.of(
            new Graph("no event", List.of()),
            new Graph("one letter", Call.listOf("insert 0 0 7")),
            new Graph("an emptied text", Call.listOf("insert 0 0 7; delete 0 0")),
            new Graph("a fork", Call.listOf("insert 0 0 0; insert 0 1 1; learn 1 0; delete 0 0; insert 1 2 2;"
                + "insert 1 1 3; learn 2 1; delete 2 1; learn 0 2; insert 0 1 4; insert 3 0 5")),
            new Graph("59 events in a row", inserts(59, 1)),
            new Graph("60 events in a row", inserts(60, 1)),
            new Graph("60 events in four rows", fullOfFourRows("learn 3 0; learn 3 2")),
            new Graph("60 events, half of them deletes", insertsAndDeletes()));
    }

    private static List<Call> inserts(int events, int authors) {
        List<Call> calls = new ArrayList<>();
        for (int event = 0; event < events; event++) {
            calls.add(new Call("insert", event % authors, event / authors, 7));
        }
        return calls;
    }

    /** 15 letters by each author in turn, and then what is said. */
    static List<Call> fullOfFourRows(String calls) {
        return joined(inserts(60, 4), Call.listOf(calls));
    }

    private static List<Call> insertsAndDeletes() {
        List<Call> calls = new ArrayList<>();
        for (int round = 0; round < 15; round++) {
            calls.addAll(Call.listOf("insert 0 0 " + round + "; learn 1 0; insert 1 1 " + round
                + "; delete 1 0; learn 0 1; delete 0 0"));
        }
        return calls;
    }

    static List<Call> joined(List<Call> one, List<Call> other) {
        List<Call> both = new ArrayList<>(one);
        both.addAll(other);
        return both;
    }

    /** The named ones, and mixed ones that are the same each time. */
    static List<Graph> all() {
        List<Graph> all = new ArrayList<>(named());
        for (int number = 0; number < DRAWN; number++) {
            all.add(new Graph("drawn " + number, drawn(number)));
        }
        return all;
    }

    private static List<Call> drawn(int number) {
        Draw draw = new Draw(number);
        PlainModel model = new PlainModel();
        List<Call> calls = new ArrayList<>();
        // The less is exchanged, the more events stand beside each other.
        int exchanges = 10 + number % 4 * 20;
        for (int i = 0; i < DRAWN_CALLS; i++) {
            Call call = drawnCall(draw, model, exchanges);
            if (!call.answer(model).startsWith("throws.")) {
                calls.add(call);
            }
        }
        return calls;
    }

    private static Call drawnCall(Draw draw, PlainModel model, int exchanges) {
        int author = draw.below(4);
        int length = model.length(author);
        if (draw.below(100) < exchanges) {
            return draw.below(3) > 0 || model.events() == 0
                ? new Call("learn", author, draw.below(4))
                : new Call("learnEvent", author, draw.below(model.events()));
        }
        if (length > 0 && draw.below(4) == 0) {
            return new Call("delete", author, draw.below(length));
        }
        // Typing on at the end makes the longer runs.
        return new Call("insert", author, draw.below(2) == 0 ? length : draw.below(length + 1), draw.below(26));
    }
}
