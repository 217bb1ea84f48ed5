/** An editor of texts as graphs of events; ../shared/DOC.md says what each call does. */
public final class EditGraph {
    public static final int NONE = -1;

    private static final int AUTHORS = 4;
    private static final int LETTERS = 26;
    private static final int MOST_EVENTS = 60;

    // The events. A delete has no letter (NONE). An insert's target is the insert at whose letter
    // it hangs, NONE at the beginning; a delete's target is the insert whose letter it takes away.
    private int eventCount;
    private final int[] makers;
    private final int[] letters;
    private final int[] targets;

    // Sets of events, bit e for the event e.
    private final long[] parentSets;
    private final long[] ancestorSets;
    private final long[] laterSets;
    private final long[] knownSets;

    // The order of all letters as a tree: of the letters that hang at the same place the one with
    // the greatest number comes first, so a new one always goes ahead of the others there.
    private int firstAtBeginning;
    private final int[] firstHanging;
    private final int[] nextBeside;

    // Rows made once and used again by every call: nothing in them outlives a call.
    private final int[] textEvents;
    private final int[] waiting;
    private final int[] behind;

    public EditGraph() {
        eventCount = 0;
        makers = new int[MOST_EVENTS];
        letters = new int[MOST_EVENTS];
        targets = new int[MOST_EVENTS];
        parentSets = new long[MOST_EVENTS];
        ancestorSets = new long[MOST_EVENTS];
        laterSets = new long[MOST_EVENTS];
        knownSets = new long[AUTHORS];
        firstAtBeginning = NONE;
        firstHanging = new int[MOST_EVENTS];
        nextBeside = new int[MOST_EVENTS];
        textEvents = new int[MOST_EVENTS];
        waiting = new int[MOST_EVENTS];
        behind = new int[MOST_EVENTS];
    }

    // ---- edits and exchange

    public int insert(int author, int place, int letter)
            throws IndexOutOfBoundsException, IllegalArgumentException, IllegalStateException {
        checkAuthor(author);
        int size = findText(knownSets[author]);
        // The place behind the last letter is one too.
        checkPlace(place, size + 1);
        if (letter < 0 || letter >= LETTERS) {
            throw new IllegalArgumentException("no such letter");
        }
        checkRoom();
        int hangsAt = place == 0 ? NONE : textEvents[place - 1];
        int event = addEvent(author, letter, hangsAt);
        hangLetter(event, hangsAt);
        return event;
    }

    public int delete(int author, int place) throws IndexOutOfBoundsException, IllegalStateException {
        checkAuthor(author);
        int size = findText(knownSets[author]);
        checkPlace(place, size);
        checkRoom();
        return addEvent(author, NONE, textEvents[place]);
    }

    public int learn(int author, int other) throws IndexOutOfBoundsException {
        checkAuthor(author);
        checkAuthor(other);
        return addKnown(author, knownSets[other]);
    }

    public int learnEvent(int author, int event) throws IndexOutOfBoundsException {
        checkAuthor(author);
        checkEvent(event);
        return addKnown(author, versionOfEvent(event));
    }

    public int events() {
        return eventCount;
    }

    // ---- texts

    public int length(int author) throws IndexOutOfBoundsException {
        checkAuthor(author);
        return findText(knownSets[author]);
    }

    public int letterAt(int author, int place) throws IndexOutOfBoundsException {
        checkAuthor(author);
        return letters[eventInText(knownSets[author], place)];
    }

    public int letterByList(int author, int place) throws IndexOutOfBoundsException {
        checkAuthor(author);
        int size = findTextByList(knownSets[author]);
        checkPlace(place, size);
        return letters[textEvents[place]];
    }

    public int eventAt(int author, int place) throws IndexOutOfBoundsException {
        checkAuthor(author);
        return eventInText(knownSets[author], place);
    }

    public int lengthOf(int event) throws IndexOutOfBoundsException {
        checkEvent(event);
        return findText(versionOfEvent(event));
    }

    public int letterOf(int event, int place) throws IndexOutOfBoundsException {
        checkEvent(event);
        return letters[eventInText(versionOfEvent(event), place)];
    }

    public int lettersBy(int author, int by) throws IndexOutOfBoundsException {
        checkAuthor(author);
        checkAuthor(by);
        int size = findText(knownSets[author]);
        int found = 0;
        for (int place = 0; place < size; place++) {
            if (makers[textEvents[place]] == by) {
                found++;
            }
        }
        return found;
    }

    // ---- the graph

    public int authorOf(int event) throws IndexOutOfBoundsException {
        checkEvent(event);
        return makers[event];
    }

    public long parents(int event) throws IndexOutOfBoundsException {
        checkEvent(event);
        return parentSets[event];
    }

    public boolean isLater(int event, int other) throws IndexOutOfBoundsException {
        checkEvent(event);
        checkEvent(other);
        return has(ancestorSets[event], other);
    }

    public long version(int author) throws IndexOutOfBoundsException {
        checkAuthor(author);
        return knownSets[author];
    }

    public long heads(int author) throws IndexOutOfBoundsException {
        checkAuthor(author);
        return headsOf(knownSets[author]);
    }

    public long commonHeads(int author, int other) throws IndexOutOfBoundsException {
        checkAuthor(author);
        checkAuthor(other);
        return headsOf(knownSets[author] & knownSets[other]);
    }

    public int concurrent(int author) throws IndexOutOfBoundsException {
        checkAuthor(author);
        long known = knownSets[author];
        int pairs = 0;
        for (int event = 0; event < eventCount; event++) {
            if (has(known, event)) {
                pairs += Long.bitCount(known & ~relatedTo(event));
            }
        }
        // Each pair was counted from both of its events.
        return pairs >> 1;
    }

    // ---- critical events and runs

    public long critical(int author) throws IndexOutOfBoundsException {
        checkAuthor(author);
        return criticalOf(knownSets[author]);
    }

    public int toReplay(int author) throws IndexOutOfBoundsException {
        checkAuthor(author);
        long known = knownSets[author];
        long criticalEvents = criticalOf(known);
        long settled = 0L;
        for (int event = 0; event < eventCount; event++) {
            if (has(criticalEvents, event)) {
                settled = versionOfEvent(event);
            }
        }
        return Long.bitCount(known & ~settled);
    }

    public int runs(int author) throws IndexOutOfBoundsException {
        checkAuthor(author);
        long known = knownSets[author];
        int found = 0;
        for (int event = 0; event < eventCount; event++) {
            if (has(known, event) && !continuesRun(event)) {
                found++;
            }
        }
        return found;
    }

    // ---- what the arguments must be

    private void checkAuthor(int author) {
        if (author < 0 || author >= AUTHORS) {
            throw new IndexOutOfBoundsException("no such author");
        }
    }

    private void checkEvent(int event) {
        if (!isEvent(event)) {
            throw new IndexOutOfBoundsException("no such event");
        }
    }

    private void checkPlace(int place, int places) {
        if (place < 0 || place >= places) {
            throw new IndexOutOfBoundsException("no such place");
        }
    }

    private void checkRoom() {
        if (eventCount >= MOST_EVENTS) {
            throw new IllegalStateException("no room for one more event");
        }
    }

    // ---- sets of events

    private boolean isEvent(int event) {
        return event >= 0 && event < eventCount;
    }

    private static long only(int event) {
        return 1L << event;
    }

    private static boolean has(long set, int event) {
        return (set & only(event)) != 0L;
    }

    private long versionOfEvent(int event) {
        return ancestorSets[event] | only(event);
    }

    /** The event itself, and all that are not concurrent with it. */
    private long relatedTo(int event) {
        return versionOfEvent(event) | laterSets[event];
    }

    private long headsOf(long version) {
        long parentsInIt = 0L;
        for (int event = 0; event < eventCount; event++) {
            if (has(version, event)) {
                parentsInIt |= parentSets[event];
            }
        }
        return version & ~parentsInIt;
    }

    private long criticalOf(long version) {
        long found = 0L;
        for (int event = 0; event < eventCount; event++) {
            if (has(version, event) && (version & ~relatedTo(event)) == 0L) {
                found |= only(event);
            }
        }
        return found;
    }

    // No two events continue the same one: the second one's author would know the first, and so
    // have it, not the one before, as a parent. So each run has just one event that continues none.
    private boolean continuesRun(int event) {
        int hangsAt = targets[event];
        return isInsert(event)
                && isEvent(hangsAt)
                && parentSets[event] == only(hangsAt)
                && makers[event] == makers[hangsAt];
    }

    // ---- new events

    private int addEvent(int author, int letter, int target) {
        int event = eventCount;
        // A version has all ancestors of its events, so they are all ancestors of the new one.
        long known = knownSets[author];
        makers[event] = author;
        letters[event] = letter;
        targets[event] = target;
        parentSets[event] = headsOf(known);
        ancestorSets[event] = known;
        markLater(known, event);
        knownSets[author] = known | only(event);
        eventCount++;
        return event;
    }

    private void markLater(long ancestors, int later) {
        for (int event = 0; event < eventCount; event++) {
            if (has(ancestors, event)) {
                laterSets[event] |= only(later);
            }
        }
    }

    private void hangLetter(int event, int hangsAt) {
        firstHanging[event] = NONE;
        if (isEvent(hangsAt)) {
            nextBeside[event] = firstHanging[hangsAt];
            firstHanging[hangsAt] = event;
        } else {
            nextBeside[event] = firstAtBeginning;
            firstAtBeginning = event;
        }
    }

    private int addKnown(int author, long version) {
        int fresh = Long.bitCount(version & ~knownSets[author]);
        knownSets[author] |= version;
        return fresh;
    }

    // ---- the text of a version

    private boolean isInsert(int event) {
        return letters[event] != NONE;
    }

    private int eventInText(long version, int place) {
        int size = findText(version);
        checkPlace(place, size);
        return textEvents[place];
    }

    /** The inserts of a version whose letters no delete in it takes away. */
    private long standingIn(long version) {
        long inserts = 0L;
        long gone = 0L;
        for (int event = 0; event < eventCount; event++) {
            if (has(version, event)) {
                if (isInsert(event)) {
                    inserts |= only(event);
                } else {
                    gone |= only(targets[event]);
                }
            }
        }
        return inserts & ~gone;
    }

    /** Puts the events of the text's letters into textEvents, and returns how many they are. */
    private int findText(long version) {
        long standing = standingIn(version);
        int size = 0;
        int waitingCount = putWaiting(firstAtBeginning, 0);
        for (int step = 0; step < MOST_EVENTS && waitingCount > 0; step++) {
            waitingCount--;
            int event = waiting[waitingCount];
            size = putText(standing, event, size);
            // What hangs at a letter comes ahead of what stands beside it, so it is put last.
            waitingCount = putWaiting(nextBeside[event], waitingCount);
            waitingCount = putWaiting(firstHanging[event], waitingCount);
        }
        return size;
    }

    private int putWaiting(int event, int waitingCount) {
        if (!isEvent(event) || waitingCount >= MOST_EVENTS) {
            return waitingCount;
        }
        waiting[waitingCount] = event;
        return waitingCount + 1;
    }

    private int putText(long standing, int event, int size) {
        if (!has(standing, event) || size >= MOST_EVENTS) {
            return size;
        }
        textEvents[size] = event;
        return size + 1;
    }

    /** The same as findText, but by laying one letter after the other into a list. */
    private int findTextByList(long version) {
        long standing = standingIn(version);
        int size = 0;
        int event = layList(version);
        for (int step = 0; step < MOST_EVENTS && isEvent(event); step++) {
            size = putText(standing, event, size);
            event = behind[event];
        }
        return size;
    }

    /** Lays the letters of all inserts, also those taken away, and returns the first one's event. */
    private int layList(long version) {
        int first = NONE;
        for (int event = 0; event < eventCount; event++) {
            if (has(version, event) && isInsert(event)) {
                int hangsAt = targets[event];
                if (isEvent(hangsAt)) {
                    behind[event] = behind[hangsAt];
                    behind[hangsAt] = event;
                } else {
                    behind[event] = first;
                    first = event;
                }
            }
        }
        return first;
    }
}
