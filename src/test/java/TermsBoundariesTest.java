/** The boundary cases of 'What it is' and 'Terms': a test for each sentence, with the sentence above it. */
public final class TermsBoundariesTest extends Checks {
    private static void reached(String when, WillKeeper x, int... due) {
        for (int k = 0; k < due.length; k++) {
            due(when + ": about(" + k + ", 2)", due[k], x.about(k, 2));
        }
    }

    private static void kept(String when, WillKeeper x, int... due) {
        for (int k = 0; k < due.length; k++) {
            due(when + ": about(" + k + ", 3)", due[k], x.about(k, 3));
        }
    }

    private static void queue(String when, WillKeeper x, int... due) {
        due(when + ": objects in the queue", due.length, x.count(3));
        for (int place = 0; place < due.length; place++) {
            due(when + ": queued(" + place + ")", due[place], x.queued(place));
        }
        due(when + ": queued(" + due.length + ")", NONE, x.queued(due.length));
    }

    /** "An object is used for at most 512 calls after it has been made": the last of them still answers. */
    private static void the512thCallAnswers() {
        WillKeeper x = new WillKeeper();
        for (int i = 0; i < 511; i++) {
            due("512 calls: clear()", 0, x.clear());
        }
        due("512 calls: the last counts the clearings", 511, x.count(6));
    }

    private static void the512thCallIsRefused() {
        WillKeeper x = new WillKeeper();
        makeMany(x, 300, FINAL, 12);
        for (int i = 300; i < 511; i++) {
            x.sweep();
        }
        throwsAsDue("512 calls: the last makes the 301st", STATE, x, y -> y.make(FINAL, 12));
    }

    private static void the512thCallForgets() {
        WillKeeper x = new WillKeeper();
        x.make(WEAK, 1);
        x.make(PLAIN, 0);
        x.root(0, 0);
        for (int i = 0; i < 254; i++) {
            due("512 calls: the weak field was forgotten", NONE, x.set(0, 0, 1));
            due("512 calls: clear()", 0, x.clear());
        }
        due("512 calls: the last counts what was forgotten", 254, x.count(5));
    }

    /** "OBJECTS are 0, 1, 2, .. , in the order in which they were made." */
    private static void objectsAreNumberedAsMade() {
        WillKeeper x = new WillKeeper();
        for (int k = 0; k < 300; k++) {
            due("objects: make", k, x.make(k % 2 == 0 ? PLAIN : FINAL, k % 13));
        }
        due("objects: kind of the first", PLAIN, x.about(0, 0));
        due("objects: kind of the last", FINAL, x.about(299, 0));
        due("objects: fields of the last", 0, x.about(299, 1));
    }

    private static void numbersGoOnAfterASweep() {
        WillKeeper x = new WillKeeper();
        due("objects: make", 0, x.make(PLAIN, 0));
        due("objects: all go", 1, x.sweep());
        due("objects: the next number", 1, x.make(PLAIN, 0));
        due("objects: make", 2, x.make(PLAIN, 0));
        x.root(0, 1);
        due("objects: the last goes", 1, x.sweep());
        due("objects: its number is not given again", 3, x.make(PLAIN, 0));
    }

    /** "Each has a KIND, 0 PLAIN, 1 WEAK, 2 FINAL". */
    private static void kindsAreNoughtToTwo() {
        WillKeeper x = new WillKeeper();
        for (int kind = 0; kind <= 2; kind++) {
            due("kinds: make(" + kind + ", 1)", kind, x.make(kind, 1));
            due("kinds: about(" + kind + ", 0)", kind, x.about(kind, 0));
        }
        due("kinds: PLAIN", 0, PLAIN);
        due("kinds: WEAK", 1, WEAK);
        due("kinds: FINAL", 2, FINAL);
    }

    /** "up to twelve FIELDS": as many as were asked for, and not one more. */
    private static void eachNumberOfFields() {
        for (int kind = 0; kind <= 2; kind++) {
            for (int fields = kind == WEAK ? 1 : 0; fields <= 12; fields++) {
                numberOfFields(kind, fields);
            }
        }
    }

    private static void numberOfFields(int kind, int fields) {
        String what = "fields: kind " + kind + " with " + fields;
        WillKeeper x = new WillKeeper();
        due(what, 0, x.make(kind, fields));
        due(what + ": about(0, 1)", fields, x.about(0, 1));
        if (fields > 0) {
            due(what + ": the last", NONE, x.set(0, fields - 1, 0));
            due(what + ": the last", 0, x.get(0, fields - 1));
        }
        throwsAsDue(what + ": get behind the last", MISSING, x, y -> y.get(0, fields));
        throwsAsDue(what + ": set behind the last", MISSING, x, y -> y.set(0, fields, NONE));
        throwsAsDue(what + ": get before the first", MISSING, x, y -> y.get(0, -1));
        throwsAsDue(what + ": set before the first", MISSING, x, y -> y.set(0, -1, NONE));
    }

    /** "each nothing or an object (nothing at first)", of the fields; object 0 is no nothing. */
    private static void fieldsAreNothingAtFirst() {
        WillKeeper x = new WillKeeper();
        for (int kind = 0; kind <= 2; kind++) {
            x.make(kind, 12);
            for (int field = 0; field < 12; field++) {
                due("fields at first: get(" + kind + ", " + field + ")", NONE, x.get(kind, field));
            }
        }
        due("fields: each of its own", NONE, x.set(0, 5, 0));
        for (int field = 0; field < 12; field++) {
            due("fields: get(0, " + field + ")", field == 5 ? 0 : NONE, x.get(0, field));
            due("fields: get(2, " + field + ")", NONE, x.get(2, field));
        }
    }

    /** "Field 0 of a WEAK one is its weak field." */
    private static void onlyFieldNoughtIsWeak() {
        WillKeeper x = new WillKeeper();
        x.make(WEAK, 12);
        makeMany(x, 3, PLAIN, 0);
        x.root(0, 0);
        x.set(0, 0, 1);
        x.set(0, 1, 2);
        x.set(0, 11, 3);
        reached("weak field", x, 1, 0, 1, 1);
        x.clear();
        due("weak field: field 0 forgets", NONE, x.get(0, 0));
        due("weak field: field 1 does not", 2, x.get(0, 1));
        due("weak field: field 11 does not", 3, x.get(0, 11));
        due("weak field: forgotten", 1, x.count(5));
    }

    private static void onlyWeakOnesHaveAWeakField() {
        WillKeeper x = new WillKeeper();
        x.make(PLAIN, 1);
        x.make(FINAL, 1);
        makeMany(x, 2, PLAIN, 0);
        x.root(0, 0);
        x.root(1, 1);
        x.set(0, 0, 2);
        x.set(1, 0, 3);
        reached("weak field", x, 1, 1, 1, 1);
        x.clear();
        due("weak field: none of a PLAIN one", 2, x.get(0, 0));
        due("weak field: none of a FINAL one", 3, x.get(1, 0));
        due("weak field: forgotten", 0, x.count(5));
    }

    private static void theOnlyFieldOfAWeakOneIsWeak() {
        WillKeeper x = new WillKeeper();
        x.make(WEAK, 1);
        x.make(PLAIN, 0);
        x.root(0, 0);
        x.set(0, 0, 1);
        reached("weak field, the only one", x, 1, 0);
        x.clear();
        due("weak field, the only one", NONE, x.get(0, 0));
    }

    /** "ROOTS are 0 .. 15, each nothing or an object (nothing at first)." */
    private static void sixteenRoots() {
        WillKeeper x = new WillKeeper();
        makeMany(x, 16, PLAIN, 0);
        for (int root = 0; root < 16; root++) {
            due("roots: at first, root(" + root + ", " + (15 - root) + ")", NONE, x.root(root, 15 - root));
        }
        due("roots: all are reached", 16, x.count(1));
        for (int root = 0; root < 16; root++) {
            due("roots: root(" + root + ", NONE)", 15 - root, x.root(root, NONE));
            due("roots: reached", 15 - root, x.count(1));
        }
    }

    private static WillKeeper oneRooted() {
        WillKeeper x = new WillKeeper();
        x.make(PLAIN, 0);
        x.root(0, 0);
        x.root(15, 0);
        return x;
    }

    private static void noRootBeforeTheFirstOrBehindTheLast() {
        for (int root : new int[] {-1, 16, -2, 17, SMALLEST, LARGEST}) {
            refused("roots: root(" + root + ", 0)", MISSING, TermsBoundariesTest::oneRooted, y -> y.root(root, 0));
            refused("roots: root(" + root + ", NONE)", MISSING, TermsBoundariesTest::oneRooted,
                y -> y.root(root, NONE));
        }
    }

    /** "REACHED are the objects in roots": in the first, in the last, in more than one, in none. */
    private static void reachedFromRoots() {
        WillKeeper x = new WillKeeper();
        makeMany(x, 3, PLAIN, 1);
        reached("no root", x, 0, 0, 0);
        due("no root: reached", 0, x.count(1));
        x.root(0, 0);
        x.root(15, 2);
        reached("first and last root", x, 1, 0, 1);
        x.root(7, 0);
        due("in two roots: counted once", 2, x.count(1));
        x.root(0, NONE);
        reached("in one root still", x, 1, 0, 1);
        x.root(7, 1);
        reached("in no root any more", x, 0, 1, 1);
    }

    /** "REACHED are the objects .. in the queue": the first, the last, and none that was taken. */
    private static void reachedFromTheQueue() {
        WillKeeper x = new WillKeeper();
        makeMany(x, 3, FINAL, 1);
        x.make(PLAIN, 0);
        x.set(2, 0, 3);
        reached("not in the queue yet", x, 0, 0, 0, 0);
        x.clear();
        reached("in the queue", x, 1, 1, 1, 1);
        x.take();
        reached("one was taken", x, 0, 1, 1, 1);
        x.take();
        x.take();
        reached("all were taken", x, 0, 0, 0, 0);
    }

    private static void all300AreReachedFromTheQueue() {
        WillKeeper x = new WillKeeper();
        makeMany(x, 300, FINAL, 12);
        due("300 FINAL ones: reached", 0, x.count(1));
        due("300 FINAL ones: come", 300, x.clear());
        due("300 FINAL ones: reached now", 300, x.count(1));
        due("300 FINAL ones: the last is", 1, x.about(299, 2));
    }

    /** "and those in fields of reached ones": the first field, the last, far off, in a ring. */
    private static void reachedFromFields() {
        WillKeeper x = new WillKeeper();
        x.make(PLAIN, 12);
        makeMany(x, 4, PLAIN, 1);
        x.set(0, 0, 1);
        x.set(0, 11, 2);
        x.set(2, 0, 3);
        x.set(3, 0, 0);
        x.set(4, 0, 4);
        reached("a ring in no root", x, 0, 0, 0, 0, 0);
        x.root(0, 0);
        reached("fields", x, 1, 1, 1, 1, 0);
        x.set(0, 11, NONE);
        reached("a field less", x, 1, 1, 0, 0, 0);
        x.root(0, 3);
        reached("the ring's last in the root", x, 1, 1, 0, 1, 0);
    }

    private static void theEndOfALongChainIsReached() {
        WillKeeper x = new WillKeeper();
        makeMany(x, 254, PLAIN, 1);
        x.root(0, 0);
        for (int k = 0; k < 253; k++) {
            x.set(k, 0, k + 1);
        }
        due("a chain: its end", 1, x.about(253, 2));
        x.set(100, 0, NONE);
        due("a chain that is cut: its end", 0, x.about(253, 2));
        due("a chain that is cut: reached", 101, x.count(1));
    }

    /** ", but for weak fields": not the object there, not what that has, unless another way leads there. */
    private static void notReachedThroughWeakFields() {
        WillKeeper x = new WillKeeper();
        x.make(WEAK, 2);
        x.make(PLAIN, 1);
        x.make(PLAIN, 0);
        x.root(0, 0);
        x.set(0, 0, 1);
        x.set(1, 0, 2);
        reached("through a weak field", x, 1, 0, 0);
        x.set(0, 1, 1);
        reached("through both fields", x, 1, 1, 1);
        x.set(0, 1, 2);
        reached("behind the weak field only", x, 1, 0, 1);
    }

    /** "KEPT are the objects in roots, in the queue": what a clearing and a take make of it. */
    private static void keptByRootsAndQueue() {
        WillKeeper x = new WillKeeper();
        x.make(FINAL, 0);
        x.make(PLAIN, 0);
        x.make(PLAIN, 0);
        x.root(15, 1);
        kept("before the queue", x, 1, 1, 0);
        x.clear();
        kept("in the queue", x, 1, 1, 0);
        x.take();
        kept("out of the queue", x, 0, 1, 0);
        x.root(15, NONE);
        kept("in nothing", x, 0, 0, 0);
        due("in nothing: kept", 0, x.count(2));
    }

    /** "all FINAL ones that never were in the queue": none is missing, and none that was there counts. */
    private static void keptAreFinalOnesThatNeverWereInTheQueue() {
        WillKeeper x = new WillKeeper();
        makeMany(x, 300, FINAL, 0);
        due("300 FINAL ones: kept", 300, x.count(2));
        due("300 FINAL ones: sweep()", 0, x.sweep());
        due("300 FINAL ones: come", 300, x.clear());
        due("300 in the queue: kept", 300, x.count(2));
        due("300 in the queue: take()", 0, x.take());
        due("one was taken: kept", 299, x.count(2));
        due("one was taken: the first", 0, x.about(0, 3));
        due("one was taken: the last", 1, x.about(299, 3));
    }

    /** "and those in any fields of kept ones (weak ones too)". */
    private static void keptThroughAnyFields() {
        WillKeeper x = new WillKeeper();
        x.make(FINAL, 12);
        makeMany(x, 3, WEAK, 12);
        x.make(PLAIN, 0);
        x.make(PLAIN, 0);
        x.set(0, 11, 1);
        x.set(1, 0, 2);
        x.set(2, 11, 4);
        x.set(3, 0, 5);
        kept("any fields", x, 1, 1, 1, 0, 1, 0);
        x.set(1, 0, NONE);
        kept("no weak field any more", x, 1, 1, 0, 0, 0, 0);
        reached("kept, and yet not reached", x, 0, 0, 0, 0, 0, 0);
    }

    /** "the FINAL objects that are not reached": no others, and as it was before the first came. */
    private static void onlyUnreachedFinalOnesCome() {
        WillKeeper x = new WillKeeper();
        x.make(FINAL, 0);
        x.make(PLAIN, 0);
        x.make(WEAK, 1);
        x.make(FINAL, 0);
        x.root(0, 0);
        x.root(1, 2);
        x.set(2, 0, 3);
        due("clearing: one in a weak field comes", 1, x.clear());
        queue("clearing: one in a weak field", x, 3);
        due("clearing: no PLAIN one and no WEAK one", PLAIN, x.about(1, 0));
    }

    private static void thoseThatHaveOneAnotherComeTogether() {
        WillKeeper x = new WillKeeper();
        makeMany(x, 3, FINAL, 1);
        x.set(0, 0, 2);
        x.set(2, 0, 1);
        x.set(1, 0, 0);
        due("clearing: a ring of FINAL ones", 3, x.clear());
        queue("clearing: a ring of FINAL ones, as made", x, 0, 1, 2);
    }

    private static void whatTheQueueReachesDoesNotCome() {
        WillKeeper x = new WillKeeper();
        x.make(FINAL, 1);
        due("clearing: the first", 1, x.clear());
        x.make(FINAL, 0);
        x.set(0, 0, 1);
        due("clearing: the queue reaches it", 0, x.clear());
        due("clearing: take()", 0, x.take());
        due("clearing: nothing reaches it now", 1, x.clear());
        queue("clearing: nothing reaches it now", x, 1);
    }

    /** "and never were in the queue": neither while they are there nor when they were taken. */
    private static void noneComesTwice() {
        WillKeeper x = new WillKeeper();
        makeMany(x, 2, FINAL, 0);
        due("clearing: first time", 2, x.clear());
        due("clearing: still in the queue", 0, x.clear());
        queue("clearing: still in the queue", x, 0, 1);
        x.take();
        x.take();
        due("clearing: taken", 0, x.clear());
        queue("clearing: taken", x);
        x.root(0, 0);
        x.clear();
        x.root(0, NONE);
        due("clearing: reached again, and no more", 0, x.clear());
        due("clearing: nothing more to take", NONE, x.take());
    }

    /** "come behind the others in the queue, in the order in which they were made". */
    private static void behindTheOthers() {
        WillKeeper x = new WillKeeper();
        makeMany(x, 5, FINAL, 0);
        x.root(0, 0);
        x.root(1, 1);
        x.root(2, 3);
        due("clearing: the unrooted", 2, x.clear());
        queue("clearing: the unrooted", x, 2, 4);
        x.root(0, NONE);
        x.root(2, NONE);
        due("clearing: older ones", 2, x.clear());
        queue("clearing: older ones behind", x, 2, 4, 0, 3);
        x.take();
        x.root(1, NONE);
        x.make(FINAL, 0);
        due("clearing: after a take", 2, x.clear());
        queue("clearing: after a take", x, 4, 0, 3, 1, 5);
    }

    /** "Then each weak field of an object that is reached now": by the queue too, and of no other. */
    private static void weakFieldsOfThoseReachedNow() {
        WillKeeper x = new WillKeeper();
        x.make(FINAL, 1);
        x.make(WEAK, 1);
        x.make(WEAK, 1);
        x.make(WEAK, 1);
        x.make(PLAIN, 0);
        x.set(0, 0, 1);
        x.root(0, 2);
        x.set(1, 0, 4);
        x.set(2, 0, 4);
        x.set(3, 0, 4);
        x.clear();
        due("forgetting: reached through the new one in the queue", NONE, x.get(1, 0));
        due("forgetting: reached through a root", NONE, x.get(2, 0));
        due("forgetting: not reached", 4, x.get(3, 0));
        due("forgetting: forgotten", 2, x.count(5));
    }

    /** "becomes nothing, if what it has was not reached before that": before the FINAL ones came. */
    private static void forgottenUnlessReachedBefore() {
        WillKeeper x = new WillKeeper();
        makeMany(x, 3, WEAK, 1);
        x.make(FINAL, 1);
        x.make(PLAIN, 0);
        x.make(PLAIN, 0);
        for (int k = 0; k < 3; k++) {
            x.root(k, k);
        }
        x.root(3, 5);
        x.set(3, 0, 4);
        x.set(0, 0, 3);
        x.set(1, 0, 4);
        x.set(2, 0, 5);
        due("forgetting: one comes", 1, x.clear());
        due("forgetting: the one that came", NONE, x.get(0, 0));
        due("forgetting: what only that one reaches", NONE, x.get(1, 0));
        due("forgetting: what a root reaches", 5, x.get(2, 0));
        x.set(0, 0, 3);
        x.set(1, 0, 4);
        due("forgetting: none comes", 0, x.clear());
        due("forgetting: was in the queue before", 3, x.get(0, 0));
        due("forgetting: the queue reached it before", 4, x.get(1, 0));
    }

    private static void aWeakFieldWithItsOwnObject() {
        WillKeeper x = new WillKeeper();
        x.make(WEAK, 1);
        x.make(FINAL, 1);
        x.make(WEAK, 1);
        x.make(WEAK, 1);
        x.root(0, 0);
        x.set(1, 0, 2);
        for (int k : new int[] {0, 2, 3}) {
            x.set(k, 0, k);
        }
        x.clear();
        due("own object: in a root", 0, x.get(0, 0));
        due("own object: reached only now", NONE, x.get(2, 0));
        due("own object: not reached", 3, x.get(3, 0));
    }

    private static void objectNoughtAndTheLastAreForgottenToo() {
        WillKeeper x = new WillKeeper();
        makeMany(x, 298, PLAIN, 0);
        x.make(WEAK, 2);
        x.make(WEAK, 1);
        x.root(0, 298);
        x.set(298, 0, 0);
        x.clear();
        due("forgetting: object 0", NONE, x.get(298, 0));
        x.set(298, 0, 299);
        x.clear();
        due("forgetting: object 299", NONE, x.get(298, 0));
        x.set(298, 1, 299);
        x.set(299, 0, 0);
        x.clear();
        due("forgetting: the weak field of object 299", NONE, x.get(299, 0));
        due("forgetting: forgotten", 3, x.count(5));
    }

    private static void anEmptyWeakFieldIsNotForgotten() {
        WillKeeper x = new WillKeeper();
        x.make(WEAK, 1);
        x.root(0, 0);
        x.clear();
        due("forgetting nothing: the field", NONE, x.get(0, 0));
        due("forgetting nothing: forgotten", 0, x.count(5));
    }

    private static void manyForgetInOneClearing() {
        WillKeeper x = new WillKeeper();
        makeMany(x, 150, WEAK, 2);
        x.make(PLAIN, 0);
        x.root(0, 149);
        for (int k = 0; k < 150; k++) {
            x.set(k, 0, 150);
        }
        for (int k = 1; k < 150; k++) {
            x.set(k, 1, k - 1);
        }
        due("forgetting: none comes", 0, x.clear());
        due("forgetting: all of them", 150, x.count(5));
        due("forgetting: the first", NONE, x.get(0, 0));
        due("forgetting: the last", NONE, x.get(149, 0));
        due("forgetting: the other field", 148, x.get(149, 1));
    }

    /** "What comes out of the queue is PLAIN from then on; in the queue it is still FINAL." */
    private static void plainFromTheTakeOn() {
        WillKeeper x = new WillKeeper();
        x.make(FINAL, 12);
        x.root(0, 0);
        x.clear();
        due("kind: reached", FINAL, x.about(0, 0));
        x.root(0, NONE);
        x.clear();
        due("kind: in the queue", FINAL, x.about(0, 0));
        x.root(0, 0);
        due("kind: in the queue and in a root", FINAL, x.about(0, 0));
        x.take();
        due("kind: taken", PLAIN, x.about(0, 0));
        x.clear();
        x.sweep();
        due("kind: from then on", PLAIN, x.about(0, 0));
        due("kind: its fields stay", 12, x.about(0, 1));
        x.root(0, NONE);
        due("kind: goes as a PLAIN one", 1, x.sweep());
    }

    /** "Weak fields are told and changed as any others." */
    private static void weakFieldsAreFields() {
        WillKeeper x = new WillKeeper();
        x.make(WEAK, 1);
        x.make(PLAIN, 0);
        due("weak field: at first", NONE, x.get(0, 0));
        due("weak field: becomes an object", NONE, x.set(0, 0, 1));
        due("weak field: tells it", 1, x.get(0, 0));
        due("weak field: becomes another", 1, x.set(0, 0, 0));
        due("weak field: becomes nothing", 0, x.set(0, 0, NONE));
        due("weak field: was nothing", NONE, x.set(0, 0, 1));
        due("weak field: nothing of it was forgotten", 0, x.count(5));
        x.root(0, 0);
        x.clear();
        due("weak field: was forgotten", NONE, x.set(0, 0, 1));
        due("weak field: again", 1, x.get(0, 0));
    }

    /** "IDENTITY NUMBERS are given when they are first asked for, 0, 1, 2, .." */
    private static void identityNumbersAsAsked() {
        WillKeeper x = new WillKeeper();
        makeMany(x, 255, PLAIN, 0);
        due("identity: none given", 0, x.count(7));
        for (int k = 254; k >= 0; k--) {
            due("identity(" + k + ")", 254 - k, x.identity(k));
        }
        due("identity: all given", 255, x.count(7));
    }

    private static void identityOfTheLastOf300() {
        WillKeeper x = new WillKeeper();
        makeMany(x, 300, PLAIN, 0);
        due("identity: of the last", 0, x.identity(299));
        due("identity: of the first", 1, x.identity(0));
        due("identity: given", 2, x.count(7));
    }

    /** ", and stay": whatever comes to the object, and not given again when it has gone. */
    private static void identityNumbersStay() {
        WillKeeper x = new WillKeeper();
        x.make(FINAL, 0);
        x.make(PLAIN, 0);
        x.make(PLAIN, 0);
        x.root(0, 2);
        due("identity: of what will go", 0, x.identity(1));
        due("identity: of a FINAL one", 1, x.identity(0));
        x.clear();
        due("identity: in the queue", 1, x.identity(0));
        x.take();
        due("identity: taken", 1, x.identity(0));
        x.root(1, 0);
        due("identity: one goes", 1, x.sweep());
        due("identity: after a sweep", 1, x.identity(0));
        due("identity: given to one that has gone too", 2, x.count(7));
        due("identity: the next", 2, x.identity(2));
        due("identity: asked again, none given", 3, x.count(7));
    }

    private static WillKeeper fullOfThreeKinds() {
        WillKeeper x = new WillKeeper();
        for (int k = 0; k < 300; k++) {
            x.make(k % 3, 1 + k % 12);
        }
        x.root(0, 299);
        return x;
    }

    /** "NoSuchElementException: there is no such object (any more) ..": before IllegalArgumentException. */
    private static void missingComesBeforeArgument() {
        for (int what : new int[] {-1, 4}) {
            refused("order: about(0, " + what + ") of nothing", MISSING, WillKeeper::new, y -> y.about(0, what));
            refused("order: about(-1, " + what + ")", MISSING, TermsBoundariesTest::oneRooted,
                y -> y.about(-1, what));
            refused("order: about(1, " + what + ")", MISSING, TermsBoundariesTest::oneRooted, y -> y.about(1, what));
            refused("order: about(0, " + what + ")", ARGUMENT, TermsBoundariesTest::oneRooted,
                y -> y.about(0, what));
        }
    }

    /** "IllegalArgumentException, then IllegalStateException, as told." */
    private static void argumentComesBeforeState() {
        int[][] bad = {{-1, 0}, {3, 0}, {PLAIN, -1}, {PLAIN, 13}, {FINAL, 13}, {WEAK, 0}};
        for (int[] b : bad) {
            refused("order: make(" + b[0] + ", " + b[1] + ") when full", ARGUMENT,
                TermsBoundariesTest::fullOfThreeKinds, y -> y.make(b[0], b[1]));
        }
        refused("order: make(PLAIN, 0) when full", STATE, TermsBoundariesTest::fullOfThreeKinds,
            y -> y.make(PLAIN, 0));
        refused("order: make(WEAK, 1) when full", STATE, TermsBoundariesTest::fullOfThreeKinds,
            y -> y.make(WEAK, 1));
        refused("order: make(FINAL, 12) when full", STATE, TermsBoundariesTest::fullOfThreeKinds,
            y -> y.make(FINAL, 12));
    }

    private static void whatItIs() {
        the512thCallAnswers();
        the512thCallIsRefused();
        the512thCallForgets();
    }

    private static void objectsAndRoots() {
        objectsAreNumberedAsMade();
        numbersGoOnAfterASweep();
        kindsAreNoughtToTwo();
        eachNumberOfFields();
        fieldsAreNothingAtFirst();
        onlyFieldNoughtIsWeak();
        onlyWeakOnesHaveAWeakField();
        theOnlyFieldOfAWeakOneIsWeak();
        sixteenRoots();
        noRootBeforeTheFirstOrBehindTheLast();
    }

    private static void reachedAndKept() {
        reachedFromRoots();
        reachedFromTheQueue();
        all300AreReachedFromTheQueue();
        reachedFromFields();
        theEndOfALongChainIsReached();
        notReachedThroughWeakFields();
        keptByRootsAndQueue();
        keptAreFinalOnesThatNeverWereInTheQueue();
        keptThroughAnyFields();
    }

    private static void clearing() {
        onlyUnreachedFinalOnesCome();
        thoseThatHaveOneAnotherComeTogether();
        whatTheQueueReachesDoesNotCome();
        noneComesTwice();
        behindTheOthers();
        weakFieldsOfThoseReachedNow();
        forgottenUnlessReachedBefore();
        aWeakFieldWithItsOwnObject();
        objectNoughtAndTheLastAreForgottenToo();
        anEmptyWeakFieldIsNotForgotten();
        manyForgetInOneClearing();
        plainFromTheTakeOn();
        weakFieldsAreFields();
    }

    private static void identitiesAndExceptions() {
        identityNumbersAsAsked();
        identityOfTheLastOf300();
        identityNumbersStay();
        missingComesBeforeArgument();
        argumentComesBeforeState();
    }

    public static void main(String[] args) {
        whatItIs();
        objectsAndRoots();
        reachedAndKept();
        clearing();
        identitiesAndExceptions();
        end();
    }
}
