/** One call of a graph, with all that can be asked ahead of it and behind it. */
final class Step {
    final String told;
    final Call call;
    final int author;
    final State before;
    final State after;
    final int answer;
    final int place;
    final int letter;

    Step(Graphs.Graph graph, int number) {
        call = graph.calls().get(number);
        told = graph.name() + ", call " + number + ": " + call;
        author = call.numbers()[0];
        before = new State(graph.calls().subList(0, number));
        after = new State(graph.calls().subList(0, number + 1));
        answer = number(before.answerOfOneMore(call));
        place = isEdit() ? call.numbers()[1] : -1;
        letter = isInsert() ? call.numbers()[2] : -1;
    }

    private int number(String answer) {
        if (answer.startsWith("throws.")) {
            throw new IllegalStateException(told + " " + answer);
        }
        return Integer.parseInt(answer);
    }

    boolean is(String name) {
        return call.name().equals(name);
    }

    boolean isInsert() {
        return is("insert");
    }

    boolean isEdit() {
        return isInsert() || is("delete");
    }
}
