import java.util.Arrays;

/** Every shape of three objects with 2, 2 and 1 fields and one root, led through clearings, takes and sweeps. */
public final class ShapesTest extends Checks {
    private static final int OBJECTS = 3;
    private static final int[] FIELDS = {2, 2, 1};
    private static final int CHOICES = OBJECTS + 1;

    /** What the document says of such a shape; a set of objects is the bits of an int. */
    private static final class Shape {
        final int[] kind = new int[OBJECTS];
        final int[][] field = new int[OBJECTS][];
        int root;
        String queue = "";
        int there = (1 << OBJECTS) - 1;
        int everQueued = 0;
        int forgotten = 0;
        int clearings = 0;

        Shape(int kinds, int others, int root) {
            int kindsLeft = kinds;
            int othersLeft = others;
            for (int k = 0; k < OBJECTS; k++) {
                kind[k] = kindsLeft % 3;
                kindsLeft /= 3;
                field[k] = new int[FIELDS[k]];
                for (int f = 0; f < FIELDS[k]; f++) {
                    field[k][f] = othersLeft % CHOICES - 1;
                    othersLeft /= CHOICES;
                }
            }
            this.root = root;
        }

        @Override
        public String toString() {
            return "kinds " + Arrays.toString(kind) + ", fields " + Arrays.deepToString(field) + ", root " + root;
        }

        int rootAndQueue() {
            int set = root == NONE ? 0 : 1 << root;
            for (int place = 0; place < queue.length(); place++) {
                set |= 1 << queued(place);
            }
            return set;
        }

        int queued(int place) {
            return place < queue.length() ? queue.charAt(place) - '0' : NONE;
        }

        int waiting() {
            int set = 0;
            for (int k = 0; k < OBJECTS; k++) {
                if (kind[k] == FINAL) {
                    set |= 1 << k;
                }
            }
            return set & there & ~everQueued;
        }

        /** One step for each object is enough for the longest way. */
        int andWhatTheyHave(int start, boolean weakToo) {
            int set = start;
            for (int step = 0; step < OBJECTS; step++) {
                for (int k = 0; k < OBJECTS; k++) {
                    for (int f = 0; f < FIELDS[k]; f++) {
                        boolean weak = kind[k] == WEAK && f == 0;
                        if ((set >> k & 1) == 1 && field[k][f] != NONE && (weakToo || !weak)) {
                            set |= 1 << field[k][f];
                        }
                    }
                }
            }
            return set;
        }

        int reached() {
            return andWhatTheyHave(rootAndQueue(), false);
        }

        int kept() {
            return andWhatTheyHave(rootAndQueue() | waiting(), true);
        }

        int clear() {
            int before = reached();
            int coming = waiting() & ~before;
            for (int k = 0; k < OBJECTS; k++) {
                queue += (coming >> k & 1) == 1 ? "" + k : "";
            }
            everQueued |= coming;
            int now = reached();
            for (int k = 0; k < OBJECTS; k++) {
                if ((now >> k & 1) == 1 && kind[k] == WEAK && field[k][0] != NONE
                    && (before >> field[k][0] & 1) == 0) {
                    field[k][0] = NONE;
                    forgotten++;
                }
            }
            clearings++;
            return Integer.bitCount(coming);
        }

        int take() {
            int first = queued(0);
            if (first != NONE) {
                queue = queue.substring(1);
                kind[first] = PLAIN;
            }
            return first;
        }

        int sweep() {
            int going = there & ~kept();
            there &= ~going;
            return Integer.bitCount(going);
        }

        int count(int what) {
            switch (what) {
                case 0: return Integer.bitCount(there);
                case 1: return Integer.bitCount(reached());
                case 2: return Integer.bitCount(kept());
                case 3: return queue.length();
                case 4: return Integer.bitCount(waiting());
                case 5: return forgotten;
                case 6: return clearings;
                case 7: return 0;
                default: return OBJECTS;
            }
        }
    }

    private static WillKeeper keeperOf(Shape shape) {
        WillKeeper x = new WillKeeper();
        for (int k = 0; k < OBJECTS; k++) {
            x.make(shape.kind[k], FIELDS[k]);
        }
        for (int k = 0; k < OBJECTS; k++) {
            for (int f = 0; f < FIELDS[k]; f++) {
                x.set(k, f, shape.field[k][f]);
            }
        }
        x.root(0, shape.root);
        return x;
    }

    private static void sameObject(String when, Shape shape, WillKeeper x, int k) {
        if ((shape.there >> k & 1) == 0) {
            throwsAsDue(when + ": about(" + k + ", 0)", MISSING, x, y -> y.about(k, 0));
            return;
        }
        due(when + ": kind of " + k, shape.kind[k], x.about(k, 0));
        due(when + ": " + k + " is reached", shape.reached() >> k & 1, x.about(k, 2));
        due(when + ": " + k + " is kept", shape.kept() >> k & 1, x.about(k, 3));
        for (int f = 0; f < FIELDS[k]; f++) {
            due(when + ": get(" + k + ", " + f + ")", shape.field[k][f], x.get(k, f));
        }
    }

    private static void same(String when, Shape shape, WillKeeper x) {
        for (int what = 0; what <= 8; what++) {
            due(when + ": count(" + what + ")", shape.count(what), x.count(what));
        }
        for (int place = 0; place <= OBJECTS; place++) {
            due(when + ": queued(" + place + ")", shape.queued(place), x.queued(place));
        }
        for (int k = 0; k < OBJECTS; k++) {
            sameObject(when, shape, x, k);
        }
    }

    private static void unroot(Shape shape, WillKeeper x) {
        due("root(0, NONE)", shape.root, x.root(0, NONE));
        shape.root = NONE;
    }

    private static void lead(Shape shape) {
        WillKeeper x = keeperOf(shape);
        same("at first", shape, x);
        due("clear()", shape.clear(), x.clear());
        same("cleared", shape, x);
        due("take()", shape.take(), x.take());
        due("clear() after a take", shape.clear(), x.clear());
        same("taken and cleared", shape, x);
        due("sweep()", shape.sweep(), x.sweep());
        same("swept", shape, x);
        unroot(shape, x);
        due("clear() without a root", shape.clear(), x.clear());
        same("without a root", shape, x);
        due("take() without a root", shape.take(), x.take());
        due("sweep() without a root", shape.sweep(), x.sweep());
        same("swept without a root", shape, x);
    }

    private static int power(int base, int exponent) {
        int product = 1;
        for (int i = 0; i < exponent; i++) {
            product *= base;
        }
        return product;
    }

    /** Stops at the first wrong shape: a fault shows in thousands of them. */
    private static void leadAll() {
        int kinds = power(3, OBJECTS);
        int others = power(CHOICES, FIELDS[0] + FIELDS[1] + FIELDS[2]);
        for (int kind = 0; kind < kinds; kind++) {
            for (int other = 0; other < others; other++) {
                for (int root = NONE; root < OBJECTS; root++) {
                    lead(new Shape(kind, other, root));
                    if (!allRightSoFar()) {
                        System.out.println("with " + new Shape(kind, other, root));
                        return;
                    }
                }
            }
        }
    }

    public static void main(String[] args) {
        leadAll();
        end();
    }
}
