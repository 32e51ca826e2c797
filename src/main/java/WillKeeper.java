import java.util.NoSuchElementException;

/**
 * Objects that refer to one another, some of them weakly; some have something
 * to be done when nothing reaches them any more.
 */
public final class WillKeeper {
    public static final int NONE = -1;
    public static final int PLAIN = 0, WEAK = 1, FINAL = 2;

    private static final int MOST_OBJECTS = 300;
    private static final int MOST_FIELDS = 12;
    private static final int ROOTS = 16;
    private static final int WEAK_FIELD = 0;

    /** One object of the document; the name keeps it apart from Java's own. */
    private static final class Thing {
        final int[] fields;
        int kind;
        boolean everQueued;
        int identityNumber;

        Thing(int kind, int fieldCount) {
            this.kind = kind;
            this.fields = new int[fieldCount >= 0 ? fieldCount : 0];
            this.everQueued = false;
            this.identityNumber = NONE;
            for (int i = 0; i < this.fields.length; i++) {
                this.fields[i] = NONE;
            }
        }

        boolean hasField(int field) {
            return field >= 0 && field < fields.length;
        }

        boolean hasWeakField() {
            return kind == WEAK && hasField(WEAK_FIELD);
        }

        boolean waitsForQueue() {
            return kind == FINAL && !everQueued;
        }
    }

    /** The objects that one search has found. Made once and used again, to spare room. */
    private static final class Search {
        final boolean[] found;
        final int[] order;
        int size;

        Search() {
            found = new boolean[MOST_OBJECTS];
            order = new int[MOST_OBJECTS];
            size = 0;
        }

        void forgetAll() {
            for (int k = 0; k < found.length; k++) {
                found[k] = false;
            }
            size = 0;
        }

        void add(int k) {
            if (k < 0 || k >= found.length || found[k] || size < 0 || size >= order.length) {
                return;
            }
            found[k] = true;
            order[size] = k;
            size++;
        }

        boolean has(int k) {
            return k >= 0 && k < found.length && found[k];
        }

        int at(int place) {
            return place >= 0 && place < size && place < order.length ? order[place] : NONE;
        }
    }

    private final Thing[] things;
    private final int[] roots;
    // An object comes to the queue once at most, so places need never be used again.
    private final int[] queue;
    private int queueStart;
    private int queueEnd;
    private final Search before;
    private final Search now;
    private int made;
    private int present;
    private int forgotten;
    private int clearings;
    private int identities;

    public WillKeeper() {
        things = new Thing[MOST_OBJECTS];
        roots = new int[ROOTS];
        for (int i = 0; i < roots.length; i++) {
            roots[i] = NONE;
        }
        queue = new int[MOST_OBJECTS];
        before = new Search();
        now = new Search();
    }

    public int make(int kind, int fields) throws IllegalArgumentException, IllegalStateException {
        if (kind < PLAIN || kind > FINAL) {
            throw new IllegalArgumentException("no such kind");
        }
        if (fields < 0 || fields > MOST_FIELDS) {
            throw new IllegalArgumentException("no such number of fields");
        }
        if (kind == WEAK && fields == 0) {
            throw new IllegalArgumentException("a weak object needs a field");
        }
        if (made < 0 || made >= things.length) {
            throw new IllegalStateException("no more objects can be made");
        }
        int k = made;
        things[k] = new Thing(kind, fields);
        made++;
        present++;
        return k;
    }

    public int set(int k, int field, int other) throws NoSuchElementException {
        Thing thing = thingWithField(k, field);
        needThingOrNone(other);
        int had = thing.fields[field];
        thing.fields[field] = other;
        return had;
    }

    public int get(int k, int field) throws NoSuchElementException {
        return thingWithField(k, field).fields[field];
    }

    public int root(int root, int k) throws NoSuchElementException {
        if (root < 0 || root >= roots.length) {
            throw new NoSuchElementException("no such root");
        }
        needThingOrNone(k);
        int had = roots[root];
        roots[root] = k;
        return had;
    }

    public int clear() {
        searchReached(before);
        int came = queueUnreached();
        searchReached(now);
        forgetUnreached();
        clearings++;
        return came;
    }

    public int take() {
        if (queueSize() <= 0) {
            return NONE;
        }
        int k = queuePlace(0);
        queueStart++;
        Thing thing = thingOrNull(k);
        if (thing != null) {
            thing.kind = PLAIN;
        }
        return k;
    }

    public int queued(int k) throws IllegalArgumentException {
        if (k < 0) {
            throw new IllegalArgumentException("no such place in the queue");
        }
        return queuePlace(k);
    }

    public int sweep() {
        searchKept(now);
        int gone = 0;
        for (int k = 0; k < things.length; k++) {
            if (things[k] != null && !now.has(k)) {
                things[k] = null;
                gone++;
            }
        }
        present -= gone;
        return gone;
    }

    public int identity(int k) throws NoSuchElementException {
        Thing thing = thingThere(k);
        if (thing.identityNumber == NONE) {
            thing.identityNumber = identities;
            identities++;
        }
        return thing.identityNumber;
    }

    public int about(int k, int what) throws NoSuchElementException, IllegalArgumentException {
        Thing thing = thingThere(k);
        switch (what) {
            case 0:
                return thing.kind;
            case 1:
                return thing.fields.length;
            case 2:
                searchReached(now);
                return now.has(k) ? 1 : 0;
            case 3:
                searchKept(now);
                return now.has(k) ? 1 : 0;
            default:
                throw new IllegalArgumentException("nothing is told under this number");
        }
    }

    public int count(int what) throws IllegalArgumentException {
        switch (what) {
            case 0:
                return present;
            case 1:
                searchReached(now);
                return now.size;
            case 2:
                searchKept(now);
                return now.size;
            case 3:
                return queueSize();
            case 4:
                return waitingFinals();
            case 5:
                return forgotten;
            case 6:
                return clearings;
            case 7:
                return identities;
            case 8:
                return made;
            default:
                throw new IllegalArgumentException("nothing is counted under this number");
        }
    }

    private Thing thingOrNull(int k) {
        return k >= 0 && k < things.length ? things[k] : null;
    }

    private Thing thingThere(int k) throws NoSuchElementException {
        Thing thing = thingOrNull(k);
        if (thing == null) {
            throw new NoSuchElementException("no such object");
        }
        return thing;
    }

    private Thing thingWithField(int k, int field) throws NoSuchElementException {
        Thing thing = thingThere(k);
        if (!thing.hasField(field)) {
            throw new NoSuchElementException("no such field");
        }
        return thing;
    }

    private void needThingOrNone(int k) throws NoSuchElementException {
        if (k != NONE && thingOrNull(k) == null) {
            throw new NoSuchElementException("no such object");
        }
    }

    private int queueSize() {
        return queueEnd - queueStart;
    }

    private int queuePlace(int place) {
        // The place is tested against the size first, so that the sum can't wrap around.
        if (place < 0 || place >= queueSize()) {
            return NONE;
        }
        int index = queueStart + place;
        return index >= 0 && index < queue.length ? queue[index] : NONE;
    }

    private void putInQueue(int k, Thing thing) {
        if (queueEnd < 0 || queueEnd >= queue.length) {
            return;
        }
        queue[queueEnd] = k;
        queueEnd++;
        thing.everQueued = true;
    }

    private int waitingFinals() {
        int waiting = 0;
        for (int k = 0; k < things.length; k++) {
            Thing thing = things[k];
            if (thing != null && thing.waitsForQueue()) {
                waiting++;
            }
        }
        return waiting;
    }

    private void searchReached(Search search) {
        search.forgetAll();
        addRootsAndQueue(search);
        followFields(search, false);
    }

    private void searchKept(Search search) {
        search.forgetAll();
        addRootsAndQueue(search);
        for (int k = 0; k < things.length; k++) {
            Thing thing = things[k];
            if (thing != null && thing.waitsForQueue()) {
                search.add(k);
            }
        }
        followFields(search, true);
    }

    private void addRootsAndQueue(Search search) {
        for (int i = 0; i < roots.length; i++) {
            search.add(roots[i]);
        }
        int size = queueSize();
        for (int place = 0; place < size; place++) {
            search.add(queuePlace(place));
        }
    }

    private void followFields(Search search, boolean weakToo) {
        // What is found on the way is followed too; nothing is found twice, so the bound holds.
        for (int place = 0; place < MOST_OBJECTS && place < search.size; place++) {
            Thing thing = thingOrNull(search.at(place));
            if (thing == null) {
                continue;
            }
            int first = !weakToo && thing.hasWeakField() ? WEAK_FIELD + 1 : 0;
            for (int field = first; field < thing.fields.length; field++) {
                search.add(thing.fields[field]);
            }
        }
    }

    private int queueUnreached() {
        int came = 0;
        for (int k = 0; k < things.length; k++) {
            Thing thing = things[k];
            if (thing != null && thing.waitsForQueue() && !before.has(k)) {
                putInQueue(k, thing);
                came++;
            }
        }
        return came;
    }

    private void forgetUnreached() {
        for (int k = 0; k < things.length; k++) {
            Thing thing = things[k];
            if (thing == null || !thing.hasWeakField() || !now.has(k)) {
                continue;
            }
            int other = thing.fields[WEAK_FIELD];
            if (other != NONE && !before.has(other)) {
                thing.fields[WEAK_FIELD] = NONE;
                forgotten++;
            }
        }
    }
}
