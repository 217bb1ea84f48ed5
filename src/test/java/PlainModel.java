import java.util.ArrayList;
import java.util.List;
import java.util.Set;
import java.util.TreeSet;

/** The document's words taken one by one, without any thought of speed: what the class is compared with. */
final class PlainModel {
    private static final class Event {
        int author;
        int letter = -1;
        int hangsAt = -1;
        int takesAway = -1;
        Set<Integer> parents;
    }

    private final List<Event> made = new ArrayList<>();
    private final List<Set<Integer>> known = new ArrayList<>();

    PlainModel() {
        for (int author = 0; author < 4; author++) {
            known.add(new TreeSet<>());
        }
    }

    /** Another model in the same state, which goes its own way from here on. */
    PlainModel copy() {
        PlainModel copy = new PlainModel();
        copy.made.addAll(made);
        for (int author = 0; author < 4; author++) {
            copy.known(author).addAll(known(author));
        }
        return copy;
    }

    int insert(int author, int place, int letter) {
        List<Integer> text = textOf(known(author));
        need(place >= 0 && place <= text.size());
        if (letter < 0 || letter > 25) {
            throw new IllegalArgumentException();
        }
        needRoom();
        Event event = new Event();
        event.letter = letter;
        event.hangsAt = place == 0 ? -1 : text.get(place - 1);
        return make(author, event);
    }

    int delete(int author, int place) {
        List<Integer> text = textOf(known(author));
        need(place >= 0 && place < text.size());
        needRoom();
        Event event = new Event();
        event.takesAway = text.get(place);
        return make(author, event);
    }

    int learn(int author, int other) {
        return add(known(author), known(other));
    }

    int learnEvent(int author, int event) {
        return add(known(author), versionOf(event));
    }

    int events() {
        return made.size();
    }

    int length(int author) {
        return textOf(known(author)).size();
    }

    int letterAt(int author, int place) {
        return event(eventAt(author, place)).letter;
    }

    int letterByList(int author, int place) {
        List<Integer> laid = new ArrayList<>();
        for (int e : known(author)) {
            if (event(e).letter >= 0) {
                laid.add(laid.indexOf(event(e).hangsAt) + 1, e);
            }
        }
        for (int e : known(author)) {
            laid.remove((Integer) event(e).takesAway);
        }
        need(place >= 0 && place < laid.size());
        return event(laid.get(place)).letter;
    }

    int eventAt(int author, int place) {
        List<Integer> text = textOf(known(author));
        need(place >= 0 && place < text.size());
        return text.get(place);
    }

    int lengthOf(int event) {
        return textOf(versionOf(event)).size();
    }

    int letterOf(int event, int place) {
        List<Integer> text = textOf(versionOf(event));
        need(place >= 0 && place < text.size());
        return event(text.get(place)).letter;
    }

    int lettersBy(int author, int by) {
        known(by);
        int found = 0;
        for (int e : textOf(known(author))) {
            found += event(e).author == by ? 1 : 0;
        }
        return found;
    }

    int authorOf(int event) {
        return event(event).author;
    }

    long parents(int event) {
        return bits(event(event).parents);
    }

    boolean isLater(int event, int other) {
        event(other);
        return ancestorsOf(event).contains(other);
    }

    long version(int author) {
        return bits(known(author));
    }

    long heads(int author) {
        return bits(headsOf(known(author)));
    }

    long commonHeads(int author, int other) {
        Set<Integer> both = new TreeSet<>(known(author));
        both.retainAll(known(other));
        return bits(headsOf(both));
    }

    int concurrent(int author) {
        int pairs = 0;
        for (int one : known(author)) {
            for (int two : known(author)) {
                pairs += one < two && !isLater(one, two) && !isLater(two, one) ? 1 : 0;
            }
        }
        return pairs;
    }

    long critical(int author) {
        return bits(criticalOf(known(author)));
    }

    int toReplay(int author) {
        Set<Integer> left = new TreeSet<>(known(author));
        TreeSet<Integer> critical = criticalOf(known(author));
        if (!critical.isEmpty()) {
            left.removeAll(versionOf(critical.last()));
        }
        return left.size();
    }

    int runs(int author) {
        Set<Integer> left = new TreeSet<>(known(author));
        int rows = 0;
        while (!left.isEmpty()) {
            int last = left.iterator().next();
            left.remove(last);
            for (int next : new ArrayList<>(left)) {
                Event event = event(next);
                if (event.parents.equals(Set.of(last)) && event.author == event(last).author
                        && event.letter >= 0 && event.hangsAt == last) {
                    left.remove(next);
                    last = next;
                }
            }
            rows++;
        }
        return rows;
    }

    private static void need(boolean there) {
        if (!there) {
            throw new IndexOutOfBoundsException();
        }
    }

    private void needRoom() {
        if (made.size() == 60) {
            throw new IllegalStateException();
        }
    }

    private Set<Integer> known(int author) {
        need(author >= 0 && author <= 3);
        return known.get(author);
    }

    private Event event(int number) {
        need(number >= 0 && number < made.size());
        return made.get(number);
    }

    private int make(int author, Event event) {
        event.author = author;
        event.parents = headsOf(known(author));
        made.add(event);
        known(author).add(made.size() - 1);
        return made.size() - 1;
    }

    private static int add(Set<Integer> knows, Set<Integer> learned) {
        int ahead = knows.size();
        knows.addAll(learned);
        return knows.size() - ahead;
    }

    private Set<Integer> headsOf(Set<Integer> version) {
        Set<Integer> heads = new TreeSet<>(version);
        for (int e : version) {
            heads.removeAll(event(e).parents);
        }
        return heads;
    }

    private Set<Integer> ancestorsOf(int event) {
        Set<Integer> found = new TreeSet<>();
        List<Integer> open = new ArrayList<>(event(event).parents);
        while (!open.isEmpty()) {
            int next = open.remove(open.size() - 1);
            if (found.add(next)) {
                open.addAll(event(next).parents);
            }
        }
        return found;
    }

    private Set<Integer> versionOf(int event) {
        Set<Integer> version = ancestorsOf(event);
        version.add(event);
        return version;
    }

    private TreeSet<Integer> criticalOf(Set<Integer> version) {
        TreeSet<Integer> found = new TreeSet<>();
        for (int one : version) {
            boolean all = true;
            for (int other : version) {
                all &= other == one || isLater(one, other) || isLater(other, one);
            }
            if (all) {
                found.add(one);
            }
        }
        return found;
    }

    private List<Integer> textOf(Set<Integer> version) {
        List<Integer> text = new ArrayList<>();
        order(-1, text);
        text.retainAll(version);
        for (int e : version) {
            text.remove((Integer) event(e).takesAway);
        }
        return text;
    }

    private void order(int hangsAt, List<Integer> order) {
        for (int e = made.size() - 1; e >= 0; e--) {
            if (event(e).letter >= 0 && event(e).hangsAt == hangsAt) {
                order.add(e);
                order(e, order);
            }
        }
    }

    private static long bits(Set<Integer> set) {
        long bits = 0;
        for (int e : set) {
            bits |= 1L << e;
        }
        return bits;
    }
}
