import java.util.ArrayList;
import java.util.List;
import java.util.TreeSet;

/** A graph call by call, and what its edits were made of, which no call tells afterwards. */
final class History {
    final String name;
    final List<Step> steps = new ArrayList<>();
    final State end;
    private final Graphs.Graph graph;
    private final List<Step> made = new ArrayList<>();
    private final List<Integer> targets = new ArrayList<>();

    History(Graphs.Graph graph) {
        this.graph = graph;
        name = graph.name();
        for (int number = 0; number < graph.calls().size(); number++) {
            Step step = new Step(graph, number);
            steps.add(step);
            if (step.isEdit()) {
                made.add(step);
                targets.add(targetOf(step));
            }
        }
        end = new State(graph.calls());
    }

    /** The event of the letter at which an insert hangs, -1 at the beginning, or that a delete takes away. */
    private static int targetOf(Step step) {
        int place = step.isInsert() ? step.place - 1 : step.place;
        return place < 0 ? -1 : step.before.number("eventAt", step.author, place);
    }

    List<Step> edits() {
        return made;
    }

    int events() {
        return made.size();
    }

    /** The graph with one call more. */
    State behind(Call call) {
        return new State(Graphs.joined(graph.calls(), List.of(call)));
    }

    static List<Integer> eventsIn(long set) {
        List<Integer> events = new ArrayList<>();
        for (int event = 0; event < 64; event++) {
            if ((set >>> event & 1) == 1) {
                events.add(event);
            }
        }
        return events;
    }

    List<Integer> lettersOf(List<Integer> events) {
        List<Integer> letters = new ArrayList<>();
        for (int event : events) {
            letters.add(made.get(event).letter);
        }
        return letters;
    }

    /** The events of the letters of a version's text, worked out from what the edits were made of. */
    List<Integer> textOf(long version) {
        List<Integer> text = new ArrayList<>();
        for (int event : eventsIn(version)) {
            if (made.get(event).isInsert()) {
                text.add(event);
            }
        }
        for (int event : eventsIn(version)) {
            if (!made.get(event).isInsert()) {
                text.remove(targets.get(event));
            }
        }
        text.sort((one, other) -> compare(wayTo(one), wayTo(other)));
        return text;
    }

    /** From the letter at the beginning to the letter itself, each one hanging at the one ahead of it. */
    private List<Integer> wayTo(int event) {
        List<Integer> way = new ArrayList<>();
        for (int at = event; at >= 0; at = targets.get(at)) {
            way.add(0, at);
        }
        return way;
    }

    /** What hangs at a letter comes behind it; of those that hang at the same one the greater number comes first. */
    private static int compare(List<Integer> one, List<Integer> other) {
        for (int i = 0; i < Math.min(one.size(), other.size()); i++) {
            if (!one.get(i).equals(other.get(i))) {
                return other.get(i) - one.get(i);
            }
        }
        return one.size() - other.size();
    }

    int runsOf(long version) {
        TreeSet<Integer> left = new TreeSet<>(eventsIn(version));
        int runs = 0;
        while (!left.isEmpty()) {
            int last = left.pollFirst();
            for (int next : new TreeSet<>(left)) {
                if (goesOn(last, next)) {
                    left.remove(next);
                    last = next;
                }
            }
            runs++;
        }
        return runs;
    }

    private boolean goesOn(int last, int next) {
        return end.set("parents", next) == 1L << last
            && end.number("authorOf", next) == end.number("authorOf", last)
            && made.get(next).isInsert()
            && targets.get(next) == last;
    }
}
