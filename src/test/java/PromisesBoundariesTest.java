/** The boundary cases of promises 1 to 12: a test for each sentence, with the sentence above it. */
public final class PromisesBoundariesTest extends Checks {
    private static final int[] EDGES = {SMALLEST, -2, -1, 0, 1, 2, 3, 4, 5, 8, 9, 11, 12, 13, 15, 16, 299, 300, 301,
        LARGEST};

    /** Object 3 has gone; 0 has two fields, 1 has twelve, 2 none; 4 is in the queue with two fields. */
    private static WillKeeper some() {
        WillKeeper x = new WillKeeper();
        x.make(PLAIN, 2);
        x.make(WEAK, 12);
        x.make(FINAL, 0);
        x.make(PLAIN, 1);
        x.make(FINAL, 2);
        x.root(0, 0);
        x.root(15, 1);
        x.set(0, 0, 2);
        x.set(0, 1, 0);
        x.set(1, 0, 2);
        x.set(1, 11, 0);
        x.set(4, 1, 4);
        x.identity(3);
        x.identity(0);
        due("some: one goes", 1, x.sweep());
        due("some: one comes", 1, x.clear());
        return x;
    }

    private static boolean isThere(int k) {
        return k >= 0 && k <= 4 && k != 3;
    }

    private static int fieldsOf(int k) {
        return k == 0 || k == 4 ? 2 : k == 1 ? 12 : 0;
    }

    private static WillKeeper full() {
        WillKeeper x = new WillKeeper();
        makeMany(x, 300, FINAL, 1);
        return x;
    }

    private static WillKeeper fullAndEmptied() {
        WillKeeper x = new WillKeeper();
        makeMany(x, 300, PLAIN, 1);
        due("all 300 go", 300, x.sweep());
        return x;
    }

    /** Promise 1: "No objects": none is told, counted or swept, and none can be had. */
    private static void aNewOneHasNoObjects() {
        for (int k : new int[] {-1, 0, 1}) {
            refused("1: get(" + k + ", 0)", MISSING, WillKeeper::new, y -> y.get(k, 0));
            refused("1: set(" + k + ", 0, NONE)", MISSING, WillKeeper::new, y -> y.set(k, 0, NONE));
            refused("1: identity(" + k + ")", MISSING, WillKeeper::new, y -> y.identity(k));
            refused("1: about(" + k + ", 0)", MISSING, WillKeeper::new, y -> y.about(k, 0));
        }
        refused("1: root(0, 0)", MISSING, WillKeeper::new, y -> y.root(0, 0));
        WillKeeper x = new WillKeeper();
        for (int what = 0; what <= 8; what++) {
            due("1: count(" + what + ")", 0, x.count(what));
        }
        due("1: sweep()", 0, x.sweep());
        due("1: the first that is made", 0, x.make(PLAIN, 0));
    }

    /** Promise 1: "nothing in roots and in the queue". */
    private static void aNewOneHasNothingInRootsAndQueue() {
        WillKeeper x = new WillKeeper();
        for (int root = 0; root <= 15; root++) {
            due("1: root(" + root + ", NONE)", NONE, x.root(root, NONE));
        }
        due("1: queued(0)", NONE, x.queued(0));
        due("1: take()", NONE, x.take());
        due("1: clear()", 0, x.clear());
        due("1: queued(0) after a clearing", NONE, x.queued(0));
        due("1: take() after a clearing", NONE, x.take());
    }

    /** Promise 2: "IllegalArgumentException: kind is not 0 .. 2". */
    private static void kindsOfMake() {
        for (int kind : EDGES) {
            if (kind < 0 || kind > 2) {
                refused("2: make(" + kind + ", 1)", ARGUMENT, PromisesBoundariesTest::some, y -> y.make(kind, 1));
            } else {
                due("2: make(" + kind + ", 1)", 5, some().make(kind, 1));
            }
        }
    }

    /** Promise 2: "fields not 0 .. 12, or it is WEAK and has none". */
    private static void fieldsOfMake() {
        for (int kind = 0; kind <= 2; kind++) {
            for (int fields : EDGES) {
                fieldsOfMake(kind, fields);
            }
        }
    }

    private static void fieldsOfMake(int kind, int fields) {
        String call = "2: make(" + kind + ", " + fields + ")";
        if (fields < (kind == WEAK ? 1 : 0) || fields > 12) {
            refused(call, ARGUMENT, PromisesBoundariesTest::some, y -> y.make(kind, fields));
        } else {
            WillKeeper x = some();
            due(call, 5, x.make(kind, fields));
            due(call + ": about(5, 1)", fields, x.about(5, 1));
        }
    }

    /** Promise 2: "IllegalStateException: 300 were made": the 300th still, and none behind it. */
    private static void the300thIsTheLast() {
        WillKeeper x = new WillKeeper();
        makeMany(x, 299, FINAL, 1);
        due("2: the 300th", 299, x.make(WEAK, 12));
        throwsAsDue("2: the 301st", STATE, x, y -> y.make(PLAIN, 0));
        due("2: made", 300, x.count(8));
        refused("2: the 301st, PLAIN", STATE, PromisesBoundariesTest::full, y -> y.make(PLAIN, 0));
        refused("2: the 301st, WEAK", STATE, PromisesBoundariesTest::full, y -> y.make(WEAK, 1));
        refused("2: the 301st, FINAL", STATE, PromisesBoundariesTest::full, y -> y.make(FINAL, 12));
        refused("2: the 301st, when all have gone", STATE, PromisesBoundariesTest::fullAndEmptied,
            y -> y.make(PLAIN, 0));
    }

    private static void refusedMakesAreNotCounted() {
        WillKeeper x = new WillKeeper();
        for (int i = 0; i < 150; i++) {
            throwsAsDue("2: make(3, 0)", ARGUMENT, x, y -> y.make(3, 0));
        }
        makeMany(x, 299, PLAIN, 0);
        throwsAsDue("2: make(WEAK, 0) before the 300th", ARGUMENT, x, y -> y.make(WEAK, 0));
        due("2: the 300th, when 151 were refused", 299, x.make(PLAIN, 0));
        throwsAsDue("2: the 301st, when 151 were refused", STATE, x, y -> y.make(PLAIN, 0));
    }

    /** Promises 3 and 4: "NoSuchElementException: k, field": each side of what is there. */
    private static void objectsAndFieldsOfSetAndGet() {
        for (int k : EDGES) {
            for (int field : EDGES) {
                objectAndFieldOfSetAndGet(k, field);
            }
        }
    }

    private static void objectAndFieldOfSetAndGet(int k, int field) {
        String at = k + ", " + field;
        if (isThere(k) && field >= 0 && field < fieldsOf(k)) {
            WillKeeper x = some();
            int had = x.get(k, field);
            due("3: set(" + at + ", 2)", had, x.set(k, field, 2));
            due("4: get(" + at + ")", 2, x.get(k, field));
            due("3: set(" + at + ", NONE)", 2, x.set(k, field, NONE));
            due("4: get(" + at + ")", NONE, x.get(k, field));
        } else {
            refused("4: get(" + at + ")", MISSING, PromisesBoundariesTest::some, y -> y.get(k, field));
            refused("3: set(" + at + ", 0)", MISSING, PromisesBoundariesTest::some, y -> y.set(k, field, 0));
            refused("3: set(" + at + ", NONE)", MISSING, PromisesBoundariesTest::some,
                y -> y.set(k, field, NONE));
            refused("3: set(" + at + ", -2)", MISSING, PromisesBoundariesTest::some, y -> y.set(k, field, -2));
        }
    }

    /** Promise 3: "or other (that can be NONE)". */
    private static void otherOfSet() {
        for (int other : EDGES) {
            String call = "3: set(0, 1, " + other + ")";
            if (other == NONE || isThere(other)) {
                WillKeeper x = some();
                due(call, 0, x.set(0, 1, other));
                due("4: get(0, 1) after " + call, other, x.get(0, 1));
            } else {
                refused(call, MISSING, PromisesBoundariesTest::some, y -> y.set(0, 1, other));
            }
        }
    }

    /** Promise 3: "what it had (NONE: nothing)": nothing twice, the same object twice, object 0. */
    private static void whatAFieldHad() {
        WillKeeper x = new WillKeeper();
        x.make(PLAIN, 1);
        due("3: nothing, and nothing again", NONE, x.set(0, 0, NONE));
        due("3: nothing before object 0", NONE, x.set(0, 0, 0));
        due("3: object 0, and object 0 again", 0, x.set(0, 0, 0));
        due("3: object 0 before nothing", 0, x.set(0, 0, NONE));
        due("4: nothing", NONE, x.get(0, 0));
    }

    private static void setAndGetOfTheLastOf300() {
        WillKeeper x = full();
        due("3: set(299, 0, 299)", NONE, x.set(299, 0, 299));
        due("4: get(299, 0)", 299, x.get(299, 0));
        due("3: set(0, 0, 299)", NONE, x.set(0, 0, 299));
        refused("4: get(300, 0)", MISSING, PromisesBoundariesTest::full, y -> y.get(300, 0));
        refused("3: set(300, 0, 0)", MISSING, PromisesBoundariesTest::full, y -> y.set(300, 0, 0));
        refused("3: set(0, 0, 300)", MISSING, PromisesBoundariesTest::full, y -> y.set(0, 0, 300));
        refused("3: set(0, 0, 299) when all have gone", MISSING, PromisesBoundariesTest::fullAndEmptied,
            y -> y.set(0, 0, 299));
        refused("4: get(299, 0) when all have gone", MISSING, PromisesBoundariesTest::fullAndEmptied,
            y -> y.get(299, 0));
    }

    /** Promise 5: "NoSuchElementException: root, or k (that can be NONE)". */
    private static void rootsAndObjectsOfRoot() {
        for (int root : EDGES) {
            for (int k : EDGES) {
                rootAndObject(root, k);
            }
        }
    }

    private static void rootAndObject(int root, int k) {
        String call = "5: root(" + root + ", " + k + ")";
        if (root >= 0 && root <= 15 && (k == NONE || isThere(k))) {
            WillKeeper x = some();
            due(call, root == 0 ? 0 : root == 15 ? 1 : NONE, x.root(root, k));
            due("5: what it became by " + call, k, x.root(root, NONE));
        } else {
            refused(call, MISSING, PromisesBoundariesTest::some, y -> y.root(root, k));
        }
    }

    /** Promise 5: "what it was": nothing twice, the same object twice, object 0. */
    private static void whatARootWas() {
        WillKeeper x = new WillKeeper();
        x.make(PLAIN, 0);
        due("5: nothing, and nothing again", NONE, x.root(15, NONE));
        due("5: nothing before object 0", NONE, x.root(15, 0));
        due("5: object 0, and object 0 again", 0, x.root(15, 0));
        due("5: object 0 before nothing", 0, x.root(15, NONE));
        due("5: nothing", NONE, x.root(15, NONE));
        due("5: another root is another", NONE, x.root(0, 0));
        due("5: another root is another", NONE, x.root(1, 0));
    }

    private static void oneObjectInAllRoots() {
        WillKeeper x = new WillKeeper();
        x.make(PLAIN, 0);
        for (int root = 0; root <= 15; root++) {
            due("5: into root " + root, NONE, x.root(root, 0));
        }
        due("5: in all roots, counted once", 1, x.count(1));
        for (int root = 0; root <= 15; root++) {
            due("5: reached, before root " + root, 1, x.count(1));
            due("5: out of root " + root, 0, x.root(root, NONE));
        }
        due("5: in no root", 0, x.count(1));
    }

    private static void rootOfTheLastOf300() {
        due("5: root(15, 299)", NONE, full().root(15, 299));
        refused("5: root(15, 300)", MISSING, PromisesBoundariesTest::full, y -> y.root(15, 300));
        refused("5: root(0, 299) when all have gone", MISSING, PromisesBoundariesTest::fullAndEmptied,
            y -> y.root(0, 299));
    }

    /** Promise 6: "how many objects came to the queue": none, one, all 300, and then none any more. */
    private static void howManyCame() {
        WillKeeper x = new WillKeeper();
        due("6: no objects", 0, x.clear());
        x.make(PLAIN, 0);
        x.make(WEAK, 1);
        due("6: no FINAL ones", 0, x.clear());
        x.make(FINAL, 0);
        due("6: one", 1, x.clear());
        due("6: none behind it", 0, x.clear());
        x.make(FINAL, 0);
        due("6: a later one, and not the first again", 1, x.clear());
        due("6: clearings, those without use too", 5, x.count(6));
        WillKeeper y = full();
        due("6: all 300", 300, y.clear());
        due("6: none of the 300 again", 0, y.clear());
        due("6: in the queue", 300, y.count(3));
    }

    /** Promise 7: "NONE if none is there": at first, behind the last, and again. */
    private static void takeOfNothing() {
        WillKeeper x = new WillKeeper();
        due("7: nothing there", NONE, x.take());
        x.make(FINAL, 0);
        due("7: nothing came yet", NONE, x.take());
        x.clear();
        due("7: the only one", 0, x.take());
        due("7: behind the last", NONE, x.take());
        due("7: again", NONE, x.take());
        due("7: none in the queue", 0, x.count(3));
        due("7: queued(0)", NONE, x.queued(0));
        x.make(FINAL, 0);
        x.clear();
        due("7: one more, when three times none was there", 1, x.take());
        due("7: behind that", NONE, x.take());
    }

    /** Promise 7: "The first object comes out of the queue: its number": as they came, to the last. */
    private static void takeOfAll() {
        WillKeeper x = new WillKeeper();
        makeMany(x, 200, FINAL, 0);
        x.clear();
        for (int k = 0; k < 200; k++) {
            due("7: take()", k, x.take());
        }
        due("7: behind the 200th", NONE, x.take());
        makeMany(x, 100, FINAL, 0);
        due("7: 100 more come", 100, x.clear());
        due("7: the first of them", 200, x.take());
        due("7: the last of them", 299, x.queued(98));
        due("7: in the queue", 99, x.count(3));
    }

    /** Promise 8: "Object k of the queue (0: the first); NONE if there are fewer." */
    private static void placesOfTheQueue() {
        WillKeeper x = full();
        x.clear();
        due("8: the first", 0, x.queued(0));
        due("8: the last", 299, x.queued(299));
        due("8: behind the last", NONE, x.queued(300));
        due("8: far behind", NONE, x.queued(LARGEST));
        for (int k = 0; k < 150; k++) {
            x.take();
        }
        due("8: the first after 150", 150, x.queued(0));
        due("8: the last after 150", 299, x.queued(149));
        due("8: behind the last after 150", NONE, x.queued(150));
        due("8: no wrap-around", NONE, x.queued(LARGEST));
        due("8: no wrap-around to the first place", NONE, x.queued(LARGEST - 149));
        due("8: asking takes none out", 150, x.count(3));
    }

    /** Promise 8: "IllegalArgumentException: k is below 0." */
    private static void noPlaceBelowNought() {
        for (int k : EDGES) {
            if (k < 0) {
                refused("8: queued(" + k + ")", ARGUMENT, PromisesBoundariesTest::some, y -> y.queued(k));
                refused("8: queued(" + k + ") of nothing", ARGUMENT, WillKeeper::new, y -> y.queued(k));
            } else {
                due("8: queued(" + k + ")", k == 0 ? 4 : NONE, some().queued(k));
                due("8: queued(" + k + ") of nothing", NONE, new WillKeeper().queued(k));
            }
        }
        WillKeeper x = some();
        x.take();
        throwsAsDue("8: queued(-1), when one was taken", ARGUMENT, x, y -> y.queued(-1));
    }

    /** Promise 9: "The objects that are not kept go: how many": none, all 300, and then none any more. */
    private static void howManyGo() {
        WillKeeper x = new WillKeeper();
        due("9: no objects", 0, x.sweep());
        x.make(PLAIN, 0);
        x.root(0, 0);
        due("9: all are kept", 0, x.sweep());
        x.make(PLAIN, 0);
        due("9: one goes", 1, x.sweep());
        due("9: none behind it", 0, x.sweep());
        due("9: one is there", 1, x.count(0));
        x.root(0, NONE);
        due("9: the last goes", 1, x.sweep());
        due("9: none is there", 0, x.count(0));
        due("9: two were made", 2, x.count(8));
        due("9: all 300 and none again", 0, fullAndEmptied().sweep());
        due("9: all 300 FINAL ones stay", 0, full().sweep());
    }

    private static WillKeeper onlyTheMiddleStays() {
        WillKeeper x = new WillKeeper();
        makeMany(x, 3, PLAIN, 1);
        x.root(0, 1);
        due("9: the first and the last go", 2, x.sweep());
        return x;
    }

    private static void whatWentIsNoMore() {
        for (int k : new int[] {0, 2}) {
            Maker maker = PromisesBoundariesTest::onlyTheMiddleStays;
            refused("9: get(" + k + ", 0)", MISSING, maker, y -> y.get(k, 0));
            refused("9: set(" + k + ", 0, 1)", MISSING, maker, y -> y.set(k, 0, 1));
            refused("9: set(1, 0, " + k + ")", MISSING, maker, y -> y.set(1, 0, k));
            refused("9: root(0, " + k + ")", MISSING, maker, y -> y.root(0, k));
            refused("9: identity(" + k + ")", MISSING, maker, y -> y.identity(k));
            refused("9: about(" + k + ", 3)", MISSING, maker, y -> y.about(k, 3));
        }
        due("9: the middle stays", 1, onlyTheMiddleStays().about(1, 3));
    }

    /** A sweep looks at what is kept, not at what is reached; it does no clearing. */
    private static void whatIsKeptAndNotReachedStays() {
        WillKeeper x = new WillKeeper();
        x.make(WEAK, 1);
        x.make(PLAIN, 0);
        x.make(FINAL, 0);
        x.root(0, 0);
        x.set(0, 0, 1);
        due("9: a weak field and a FINAL one keep", 0, x.sweep());
        due("9: the weak field", 1, x.get(0, 0));
        due("9: none came", 0, x.count(3));
        due("9: no clearing", 0, x.count(6));
        due("9: reached", 1, x.count(1));
    }

    /** Promise 10: "NoSuchElementException." */
    private static void objectsOfIdentity() {
        for (int k : EDGES) {
            if (isThere(k)) {
                due("10: identity(" + k + ")", k == 0 ? 1 : 2, some().identity(k));
            } else {
                refused("10: identity(" + k + ")", MISSING, PromisesBoundariesTest::some, y -> y.identity(k));
            }
        }
        due("10: identity(299)", 0, full().identity(299));
        refused("10: identity(300)", MISSING, PromisesBoundariesTest::full, y -> y.identity(300));
    }

    /** Promise 10: a refused call gives no number, and asking again gives none. */
    private static void identityIsGivenOnce() {
        WillKeeper x = new WillKeeper();
        makeMany(x, 2, PLAIN, 0);
        throwsAsDue("10: identity(2)", MISSING, x, y -> y.identity(2));
        due("10: the first number", 0, x.identity(1));
        due("10: the same again", 0, x.identity(1));
        throwsAsDue("10: identity(-1)", MISSING, x, y -> y.identity(-1));
        due("10: the second number", 1, x.identity(0));
        due("10: the first stays", 0, x.identity(1));
        due("10: given", 2, x.count(7));
    }

    /** Promise 11: "NoSuchElementException. IllegalArgumentException: none of these." */
    private static void objectsAndQuestionsOfAbout() {
        for (int k : EDGES) {
            for (int what : EDGES) {
                String call = "11: about(" + k + ", " + what + ")";
                if (!isThere(k)) {
                    refused(call, MISSING, PromisesBoundariesTest::some, y -> y.about(k, what));
                } else if (what < 0 || what > 3) {
                    refused(call, ARGUMENT, PromisesBoundariesTest::some, y -> y.about(k, what));
                } else {
                    int[] due = {k == 1 ? WEAK : k == 0 ? PLAIN : FINAL, fieldsOf(k), 1, 1};
                    due(call, due[what], some().about(k, what));
                }
            }
        }
    }

    /** Promise 11: "0 its kind, 1 its fields, 2 1 if it is reached, else 0, 3 1 if it is kept, else 0". */
    private static void aboutTheLastOf300() {
        WillKeeper x = full();
        due("11: about(299, 0)", FINAL, x.about(299, 0));
        due("11: about(299, 1)", 1, x.about(299, 1));
        due("11: about(299, 2)", 0, x.about(299, 2));
        due("11: about(299, 3)", 1, x.about(299, 3));
        x.clear();
        due("11: about(299, 2) in the queue", 1, x.about(299, 2));
        for (int what = 0; what <= 3; what++) {
            int asked = what;
            refused("11: about(300, " + what + ")", MISSING, PromisesBoundariesTest::full, y -> y.about(300, asked));
        }
    }

    /** Promise 12: "IllegalArgumentException: none of these." */
    private static void questionsOfCount() {
        int[] due = {4, 4, 4, 1, 1, 0, 1, 2, 5};
        for (int what : EDGES) {
            if (what < 0 || what > 8) {
                refused("12: count(" + what + ")", ARGUMENT, PromisesBoundariesTest::some, y -> y.count(what));
                refused("12: count(" + what + ") of nothing", ARGUMENT, WillKeeper::new, y -> y.count(what));
            } else {
                due("12: count(" + what + ")", due[what], some().count(what));
                due("12: count(" + what + ") of nothing", 0, new WillKeeper().count(what));
            }
        }
    }

    private static void counts(String when, WillKeeper x, int... due) {
        for (int what = 0; what < due.length; what++) {
            due("12: " + when + ": count(" + what + ")", due[what], x.count(what));
        }
    }

    /** Promise 12: each count at its most and at its least. */
    private static void countsOf300() {
        WillKeeper x = full();
        counts("300 FINAL ones", x, 300, 0, 300, 0, 300, 0, 0, 0, 300);
        x.clear();
        counts("300 in the queue", x, 300, 300, 300, 300, 0, 0, 1, 0, 300);
        for (int k = 0; k < 150; k++) {
            x.take();
        }
        counts("150 taken", x, 300, 150, 150, 150, 0, 0, 1, 0, 300);
        due("12: 150 go", 150, x.sweep());
        counts("150 gone", x, 150, 150, 150, 150, 0, 0, 1, 0, 300);
        counts("all gone", fullAndEmptied(), 0, 0, 0, 0, 0, 0, 0, 0, 300);
    }

    /** Promise 12: "5 weak fields that became nothing by clearings", and not by set. */
    private static void onlyClearingsForget() {
        WillKeeper x = new WillKeeper();
        x.make(WEAK, 2);
        x.make(PLAIN, 0);
        x.root(0, 0);
        x.set(0, 0, 1);
        x.set(0, 0, NONE);
        x.set(0, 1, 1);
        x.set(0, 1, NONE);
        due("12: a set counts for none", 0, x.count(5));
        x.clear();
        due("12: an empty field counts for none", 0, x.count(5));
        x.set(0, 0, 1);
        due("12: a sweep forgets none", 0, x.sweep());
        due("12: a sweep counts for none", 0, x.count(5));
        x.clear();
        due("12: one by a clearing", 1, x.count(5));
        x.set(0, 0, 1);
        x.clear();
        due("12: the same field again", 2, x.count(5));
        x.root(0, NONE);
        due("12: both go", 2, x.sweep());
        due("12: gone, and still counted", 2, x.count(5));
    }

    /** Promise 12: "4 FINAL ones that never were in the queue": reached or not, until they come there. */
    private static void finalOnesThatWait() {
        WillKeeper x = new WillKeeper();
        due("12: none", 0, x.count(4));
        makeMany(x, 2, FINAL, 0);
        x.make(PLAIN, 0);
        x.make(WEAK, 1);
        due("12: two", 2, x.count(4));
        x.root(0, 0);
        x.clear();
        due("12: the reached one waits", 1, x.count(4));
        x.take();
        due("12: a take changes nothing of it", 1, x.count(4));
        x.root(0, NONE);
        x.clear();
        due("12: none any more", 0, x.count(4));
    }

    /** 'Nothing is promised beyond the answers and state changes': calls that only tell change nothing. */
    private static void askingChangesNothing() {
        unchanged("get", PromisesBoundariesTest::some, y -> y.get(0, 0) + y.get(1, 0) + y.get(4, 0));
        unchanged("queued", PromisesBoundariesTest::some, y -> y.queued(0) + y.queued(1));
        for (int asked = 0; asked <= 3; asked++) {
            int what = asked;
            unchanged("about " + what, PromisesBoundariesTest::some, y -> y.about(2, what) + y.about(4, what));
        }
        for (int asked = 0; asked <= 8; asked++) {
            int what = asked;
            unchanged("count " + what, PromisesBoundariesTest::some, y -> y.count(what));
        }
        unchanged("take of nothing", PromisesBoundariesTest::full, WillKeeper::take);
        unchanged("sweep of nothing", PromisesBoundariesTest::full, WillKeeper::sweep);
    }

    private static void promises1To5() {
        aNewOneHasNoObjects();
        aNewOneHasNothingInRootsAndQueue();
        kindsOfMake();
        fieldsOfMake();
        the300thIsTheLast();
        refusedMakesAreNotCounted();
        objectsAndFieldsOfSetAndGet();
        otherOfSet();
        whatAFieldHad();
        setAndGetOfTheLastOf300();
        rootsAndObjectsOfRoot();
        whatARootWas();
        oneObjectInAllRoots();
        rootOfTheLastOf300();
    }

    private static void promises6To9() {
        howManyCame();
        takeOfNothing();
        takeOfAll();
        placesOfTheQueue();
        noPlaceBelowNought();
        howManyGo();
        whatWentIsNoMore();
        whatIsKeptAndNotReachedStays();
    }

    private static void promises10To12() {
        objectsOfIdentity();
        identityIsGivenOnce();
        objectsAndQuestionsOfAbout();
        aboutTheLastOf300();
        questionsOfCount();
        countsOf300();
        onlyClearingsForget();
        finalOnesThatWait();
        askingChangesNothing();
    }

    public static void main(String[] args) {
        promises1To5();
        promises6To9();
        promises10To12();
        end();
    }
}
