/** Each promise by hand: ordinary inputs, the edges that the document names, and wrong inputs. */
public final class PromisesTest extends Checks {
    private static void promise1() {
        WillKeeper x = new WillKeeper();
        for (int what = 0; what <= 8; what++) {
            due("1: count(" + what + ")", 0, x.count(what));
        }
        due("1: take()", NONE, x.take());
        due("1: queued(0)", NONE, x.queued(0));
        due("1: clear()", 0, x.clear());
        due("1: sweep()", 0, x.sweep());
        for (int root = 0; root < 16; root++) {
            due("1: root(" + root + ", NONE)", NONE, x.root(root, NONE));
        }
        refused("1: about(0, 0)", MISSING, WillKeeper::new, y -> y.about(0, 0));
        WillKeeper other = new WillKeeper();
        x.make(PLAIN, 1);
        x.root(0, 0);
        due("1: objects of another keeper", 0, other.count(0));
        due("1: root of another keeper", NONE, other.root(0, NONE));
    }

    private static WillKeeper oneOfEach() {
        WillKeeper x = new WillKeeper();
        due("2: make(PLAIN, 0)", 0, x.make(PLAIN, 0));
        due("2: make(PLAIN, 12)", 1, x.make(PLAIN, 12));
        due("2: make(WEAK, 1)", 2, x.make(WEAK, 1));
        due("2: make(WEAK, 12)", 3, x.make(WEAK, 12));
        due("2: make(FINAL, 0)", 4, x.make(FINAL, 0));
        due("2: make(FINAL, 12)", 5, x.make(FINAL, 12));
        return x;
    }

    private static WillKeeper full() {
        WillKeeper x = oneOfEach();
        due("2: sweep()", 4, x.sweep());
        due("2: a number is not given again", 6, x.make(PLAIN, 0));
        for (int k = 7; k < 300; k++) {
            due("2: make up to 300", k, x.make(k % 3, 12));
        }
        return x;
    }

    private static WillKeeper fullAndSwept() {
        WillKeeper x = full();
        x.sweep();
        return x;
    }

    private static void promise2() {
        WillKeeper x = oneOfEach();
        for (int field = 0; field < 12; field++) {
            due("2: a new field", NONE, x.get(1, field));
            due("2: a new field", NONE, x.get(3, field));
            due("2: a new field", NONE, x.get(5, field));
        }
        int[][] bad = {{-1, 1}, {3, 1}, {LARGEST, 1}, {SMALLEST, 1}, {PLAIN, -1}, {PLAIN, 13},
            {FINAL, 13}, {FINAL, -1}, {WEAK, 13}, {WEAK, 0}, {WEAK, -1}, {PLAIN, SMALLEST},
            {PLAIN, LARGEST}};
        for (int[] b : bad) {
            String call = "make(" + b[0] + ", " + b[1] + ")";
            refused("2: " + call, ARGUMENT, PromisesTest::oneOfEach, y -> y.make(b[0], b[1]));
            refused("2: when full, " + call, ARGUMENT, PromisesTest::full, y -> y.make(b[0], b[1]));
        }
        refused("2: the 301st", STATE, PromisesTest::full, y -> y.make(PLAIN, 0));
        refused("2: the 301st after a sweep", STATE, PromisesTest::fullAndSwept, y -> y.make(FINAL, 3));
        due("2: objects made", 300, full().count(8));
    }

    private static WillKeeper withFields() {
        WillKeeper x = new WillKeeper();
        x.make(PLAIN, 2);
        x.make(WEAK, 2);
        x.make(FINAL, 1);
        x.make(PLAIN, 0);
        due("3: set(0, 0, 1)", NONE, x.set(0, 0, 1));
        due("4: get(0, 0)", 1, x.get(0, 0));
        due("4: get(0, 1)", NONE, x.get(0, 1));
        due("3: set(0, 0, 0)", 1, x.set(0, 0, 0));
        due("3: set(0, 0, NONE)", 0, x.set(0, 0, NONE));
        due("4: get(0, 0)", NONE, x.get(0, 0));
        due("3: set(0, 1, 2)", NONE, x.set(0, 1, 2));
        due("3: weak field", NONE, x.set(1, 0, 2));
        due("4: weak field", 2, x.get(1, 0));
        due("3: weak field", 2, x.set(1, 0, 1));
        due("3: field of a FINAL", NONE, x.set(2, 0, 0));
        return x;
    }

    private static WillKeeper withFieldsSwept() {
        WillKeeper x = withFields();
        due("3: sweep()", 2, x.sweep());
        return x;
    }

    private static void promise3And4() {
        Maker maker = PromisesTest::withFields;
        int[][] badFields = {{-1, 0}, {4, 0}, {300, 0}, {SMALLEST, 0}, {LARGEST, 0}, {0, -1},
            {0, 2}, {2, 1}, {3, 0}, {0, SMALLEST}, {0, LARGEST}};
        for (int[] b : badFields) {
            String at = b[0] + ", " + b[1];
            refused("4: get(" + at + ")", MISSING, maker, y -> y.get(b[0], b[1]));
            refused("3: set(" + at + ", 0)", MISSING, maker, y -> y.set(b[0], b[1], 0));
            refused("3: set(" + at + ", NONE)", MISSING, maker, y -> y.set(b[0], b[1], NONE));
        }
        for (int other : new int[] {-2, 4, 300, SMALLEST, LARGEST}) {
            refused("3: set(0, 1, " + other + ")", MISSING, maker, y -> y.set(0, 1, other));
        }
        Maker swept = PromisesTest::withFieldsSwept;
        refused("4: get of what went", MISSING, swept, y -> y.get(1, 0));
        refused("3: set of what went", MISSING, swept, y -> y.set(1, 0, 0));
        refused("3: set to what went", MISSING, swept, y -> y.set(0, 0, 3));
    }

    private static WillKeeper withRoots() {
        WillKeeper x = new WillKeeper();
        x.make(PLAIN, 0);
        x.make(FINAL, 0);
        x.make(WEAK, 1);
        due("5: root(0, 0)", NONE, x.root(0, 0));
        due("5: root(15, 1)", NONE, x.root(15, 1));
        due("5: root(0, 2)", 0, x.root(0, 2));
        due("5: root(15, NONE)", 1, x.root(15, NONE));
        due("5: root(15, NONE)", NONE, x.root(15, NONE));
        due("5: root(14, 2)", NONE, x.root(14, 2));
        return x;
    }

    private static WillKeeper withRootsSwept() {
        WillKeeper x = withRoots();
        due("5: sweep()", 1, x.sweep());
        return x;
    }

    private static void promise5() {
        Maker maker = PromisesTest::withRoots;
        for (int root : new int[] {-1, 16, 300, SMALLEST, LARGEST}) {
            refused("5: root(" + root + ", 0)", MISSING, maker, y -> y.root(root, 0));
            refused("5: root(" + root + ", NONE)", MISSING, maker, y -> y.root(root, NONE));
        }
        for (int k : new int[] {-2, 3, 300, SMALLEST, LARGEST}) {
            refused("5: root(0, " + k + ")", MISSING, maker, y -> y.root(0, k));
        }
        refused("5: root to what went", MISSING, PromisesTest::withRootsSwept, y -> y.root(0, 0));
        due("5: root(0, NONE)", 2, withRootsSwept().root(0, NONE));
    }

    private static void promise6() {
        WillKeeper x = new WillKeeper();
        for (int k = 0; k < 4; k++) {
            x.make(FINAL, 1);
        }
        x.root(0, 0);
        x.root(1, 1);
        x.set(1, 0, 2);
        due("6: only what is not reached comes", 1, x.clear());
        due("6: queued(0)", 3, x.queued(0));
        due("6: once only", 0, x.clear());
        x.root(1, NONE);
        x.root(0, NONE);
        due("6: behind the others, as made", 3, x.clear());
        for (int place = 0; place < 4; place++) {
            due("6: queued(" + place + ")", (place + 3) % 4, x.queued(place));
        }
        due("6: clearings", 3, x.count(6));
        due("6: take()", 3, x.take());
        due("6: what was taken does not come again", 0, x.clear());
    }

    /** Reached before, or only now through the queue: that decides what weak fields forget. */
    private static void promise6Weak() {
        WillKeeper x = new WillKeeper();
        x.make(WEAK, 2);
        x.make(FINAL, 2);
        x.make(WEAK, 2);
        x.make(PLAIN, 0);
        x.make(WEAK, 1);
        x.make(WEAK, 1);
        x.root(0, 0);
        x.root(1, 4);
        x.set(0, 0, 3);
        x.set(1, 0, 2);
        x.set(1, 1, 3);
        x.set(2, 0, 2);
        x.set(2, 1, 0);
        x.set(4, 0, 0);
        x.set(5, 0, 3);
        due("6: clear()", 1, x.clear());
        due("6: reached only through the queue: forgotten", NONE, x.get(0, 0));
        due("6: a weak one that the queue reaches forgets itself", NONE, x.get(2, 0));
        due("6: its other field stays", 0, x.get(2, 1));
        due("6: what was reached stays", 0, x.get(4, 0));
        due("6: a weak one that is not reached keeps its field", 3, x.get(5, 0));
        due("6: fields of the queued one stay", 3, x.get(1, 1));
        due("6: forgotten", 2, x.count(5));
        x.set(0, 0, 3);
        x.set(2, 0, 2);
        due("6: clear()", 0, x.clear());
        due("6: the queue reaches it before now", 3, x.get(0, 0));
        due("6: itself, reached before", 2, x.get(2, 0));
        due("6: forgotten", 2, x.count(5));
        x.set(0, 1, 4);
        x.root(1, NONE);
        x.take();
        due("6: clear()", 0, x.clear());
        due("6: no more in the queue: forgotten", NONE, x.get(0, 0));
        due("6: not reached any more: stays", 2, x.get(2, 0));
        due("6: forgotten", 3, x.count(5));
    }

    private static void promise7() {
        WillKeeper x = new WillKeeper();
        due("7: take() of nothing", NONE, x.take());
        x.make(PLAIN, 0);
        x.make(FINAL, 3);
        x.make(FINAL, 0);
        x.make(WEAK, 1);
        x.clear();
        due("7: in the queue still FINAL", FINAL, x.about(1, 0));
        due("7: take()", 1, x.take());
        due("7: PLAIN from then on", PLAIN, x.about(1, 0));
        due("7: fields stay", 3, x.about(1, 1));
        due("7: the next is FINAL", FINAL, x.about(2, 0));
        due("7: not reached any more", 0, x.about(1, 2));
        due("7: take()", 2, x.take());
        due("7: take() of nothing", NONE, x.take());
        due("7: still there", PLAIN, x.about(2, 0));
        due("7: in the queue", 0, x.count(3));
        due("7: sweep()", 4, x.sweep());
    }

    private static WillKeeper withQueue() {
        WillKeeper x = new WillKeeper();
        x.make(FINAL, 0);
        x.make(PLAIN, 0);
        x.make(FINAL, 0);
        due("8: before a clearing", NONE, x.queued(0));
        x.clear();
        return x;
    }

    private static void promise8() {
        WillKeeper x = withQueue();
        due("8: queued(0)", 0, x.queued(0));
        due("8: queued(1)", 2, x.queued(1));
        due("8: queued(2)", NONE, x.queued(2));
        due("8: queued(300)", NONE, x.queued(300));
        due("8: queued(largest)", NONE, x.queued(LARGEST));
        x.take();
        due("8: queued(0) after take", 2, x.queued(0));
        due("8: queued(1) after take", NONE, x.queued(1));
        due("8: queued(largest) after take", NONE, x.queued(LARGEST));
        refused("8: queued(-1)", ARGUMENT, PromisesTest::withQueue, y -> y.queued(-1));
        refused("8: queued(smallest)", ARGUMENT, PromisesTest::withQueue, y -> y.queued(SMALLEST));
        refused("8: queued(-1) of nothing", ARGUMENT, WillKeeper::new, y -> y.queued(-1));
    }

    private static WillKeeper withRing() {
        WillKeeper x = new WillKeeper();
        x.make(WEAK, 2);
        x.make(PLAIN, 1);
        x.make(PLAIN, 1);
        x.make(FINAL, 1);
        x.make(PLAIN, 12);
        x.make(PLAIN, 1);
        x.make(PLAIN, 1);
        x.set(0, 0, 1);
        x.set(1, 0, 2);
        x.set(3, 0, 4);
        x.set(5, 0, 6);
        x.set(6, 0, 5);
        x.root(0, 0);
        due("9: a ring that nothing keeps goes", 2, x.sweep());
        return x;
    }

    private static void promise9() {
        WillKeeper x = withRing();
        due("9: weak fields keep", 2, x.get(1, 0));
        due("9: FINAL ones keep", 4, x.get(3, 0));
        due("9: sweep() again", 0, x.sweep());
        x.clear();
        due("9: forgotten by the clearing", 2, x.sweep());
        due("9: the queue keeps", 4, x.get(3, 0));
        x.take();
        x.root(1, 4);
        due("9: taken, in no root", 1, x.sweep());
        due("9: a root keeps", 12, x.about(4, 1));
        due("9: objects", 2, x.count(0));
        due("9: made", 7, x.count(8));
        refused("9: about(5, 0)", MISSING, PromisesTest::withRing, y -> y.about(5, 0));
        refused("9: about(6, 0)", MISSING, PromisesTest::withRing, y -> y.about(6, 0));
    }

    private static WillKeeper withIdentities() {
        WillKeeper x = new WillKeeper();
        for (int k = 0; k < 4; k++) {
            x.make(PLAIN, 0);
        }
        due("10: identity(2)", 0, x.identity(2));
        due("10: identity(0)", 1, x.identity(0));
        due("10: identity(2) again", 0, x.identity(2));
        x.root(0, 2);
        x.root(1, 3);
        x.clear();
        x.sweep();
        return x;
    }

    private static void promise10() {
        Maker maker = PromisesTest::withIdentities;
        refused("10: of what went", MISSING, maker, y -> y.identity(0));
        refused("10: of what never had one", MISSING, maker, y -> y.identity(1));
        for (int k : new int[] {-1, 4, 300, SMALLEST, LARGEST}) {
            refused("10: identity(" + k + ")", MISSING, maker, y -> y.identity(k));
        }
        WillKeeper x = withIdentities();
        due("10: stays", 0, x.identity(2));
        due("10: given", 2, x.count(7));
        due("10: numbers are not given again", 2, x.identity(3));
        due("10: given", 3, x.count(7));
    }

    private static WillKeeper withOneInRoot() {
        WillKeeper x = new WillKeeper();
        x.make(WEAK, 3);
        x.make(PLAIN, 0);
        x.make(FINAL, 12);
        x.make(PLAIN, 1);
        x.make(PLAIN, 0);
        x.root(7, 0);
        x.set(0, 0, 1);
        x.set(0, 2, 4);
        return x;
    }

    private static WillKeeper withOneInRootSwept() {
        WillKeeper x = withOneInRoot();
        due("11: sweep()", 1, x.sweep());
        return x;
    }

    private static void promise11() {
        WillKeeper x = withOneInRoot();
        int[][] due = {{WEAK, 3, 1, 1}, {PLAIN, 0, 0, 1}, {FINAL, 12, 0, 1}, {PLAIN, 1, 0, 0}, {PLAIN, 0, 1, 1}};
        for (int k = 0; k < due.length; k++) {
            for (int what = 0; what < 4; what++) {
                due("11: about(" + k + ", " + what + ")", due[k][what], x.about(k, what));
            }
        }
        x.clear();
        due("11: in the queue: reached", 1, x.about(2, 2));
        due("11: in the queue: kept", 1, x.about(2, 3));
        x.take();
        due("11: taken: not reached", 0, x.about(2, 2));
        due("11: taken: not kept", 0, x.about(2, 3));
        Maker maker = PromisesTest::withOneInRoot;
        for (int what : new int[] {-1, 4, SMALLEST, LARGEST}) {
            refused("11: about(0, " + what + ")", ARGUMENT, maker, y -> y.about(0, what));
            refused("11: about(5, " + what + ")", MISSING, maker, y -> y.about(5, what));
        }
        for (int k : new int[] {-1, 5, 300, SMALLEST, LARGEST}) {
            refused("11: about(" + k + ", 0)", MISSING, maker, y -> y.about(k, 0));
        }
        refused("11: of what went", MISSING, PromisesTest::withOneInRootSwept, y -> y.about(3, 1));
        refused("11: nothing of what went", MISSING, PromisesTest::withOneInRootSwept, y -> y.about(3, 4));
    }

    private static void counts(String when, WillKeeper x, int... due) {
        for (int what = 0; what < due.length; what++) {
            due("12: " + when + ": count(" + what + ")", due[what], x.count(what));
        }
    }

    private static WillKeeper withAllToCount() {
        WillKeeper x = new WillKeeper();
        x.make(WEAK, 1);
        x.make(PLAIN, 1);
        x.make(FINAL, 1);
        x.make(FINAL, 1);
        x.make(PLAIN, 0);
        x.root(0, 0);
        x.root(1, 0);
        x.root(2, 3);
        x.set(0, 0, 1);
        x.identity(4);
        return x;
    }

    private static void promise12() {
        WillKeeper x = withAllToCount();
        counts("made", x, 5, 2, 4, 0, 2, 0, 0, 1, 5);
        x.clear();
        counts("cleared", x, 5, 3, 3, 1, 1, 1, 1, 1, 5);
        x.sweep();
        counts("swept", x, 3, 3, 3, 1, 1, 1, 1, 1, 5);
        x.set(0, 0, NONE);
        x.clear();
        counts("an empty weak field", x, 3, 3, 3, 1, 1, 1, 2, 1, 5);
        x.take();
        counts("taken", x, 3, 2, 2, 0, 1, 1, 2, 1, 5);
        x.root(2, NONE);
        counts("a FINAL in no root", x, 3, 1, 2, 0, 1, 1, 2, 1, 5);
        for (int what : new int[] {-1, 9, SMALLEST, LARGEST}) {
            refused("12: count(" + what + ")", ARGUMENT, PromisesTest::withAllToCount, y -> y.count(what));
        }
    }

    private static void longChain() {
        WillKeeper x = new WillKeeper();
        for (int k = 0; k < 250; k++) {
            x.make(FINAL, 1);
        }
        x.root(15, 249);
        for (int k = 1; k < 250; k++) {
            x.set(k, 0, k - 1);
        }
        due("a long chain is reached", 250, x.count(1));
        due("nothing comes", 0, x.clear());
        x.root(15, NONE);
        due("a long chain is not reached", 0, x.count(1));
        due("all come", 250, x.clear());
        due("last in the queue", 249, x.queued(249));
    }

    private static void longQueue() {
        WillKeeper x = new WillKeeper();
        for (int k = 0; k < 300; k++) {
            x.make(FINAL, 1);
        }
        due("all come", 300, x.clear());
        due("last in the queue", 299, x.queued(299));
        due("behind the last", NONE, x.queued(300));
        for (int k = 0; k < 200; k++) {
            due("take", k, x.take());
        }
        due("none comes again", 0, x.clear());
        due("those that were taken go", 200, x.sweep());
        due("the queue stays", 100, x.count(0));
    }

    public static void main(String[] args) {
        promise1();
        promise2();
        promise3And4();
        promise5();
        promise6();
        promise6Weak();
        promise7();
        promise8();
        promise9();
        promise10();
        promise11();
        promise12();
        longChain();
        longQueue();
        end();
    }
}
