import java.util.NoSuchElementException;

/** What the tests by hand have in common; each of them extends this class and runs in a machine of its own. */
class Checks {
    static final int NONE = WillKeeper.NONE;
    static final int PLAIN = WillKeeper.PLAIN;
    static final int WEAK = WillKeeper.WEAK;
    static final int FINAL = WillKeeper.FINAL;
    static final int SMALLEST = Integer.MIN_VALUE;
    static final int LARGEST = Integer.MAX_VALUE;
    static final Class<? extends RuntimeException> MISSING = NoSuchElementException.class;
    static final Class<? extends RuntimeException> ARGUMENT = IllegalArgumentException.class;
    static final Class<? extends RuntimeException> STATE = IllegalStateException.class;

    private static int wrong = 0;

    interface Call {
        int answer(WillKeeper x);
    }

    /** Makes the same keeper each time: a keeper is good for 512 calls, and a picture takes many. */
    interface Maker {
        WillKeeper keeper();
    }

    static void due(String call, int want, int got) {
        if (got != want) {
            wrong++;
            System.out.println(call + " answered " + got + ", due is " + want);
        }
    }

    /** The call throws what is due, throws it again when it comes again, and has changed nothing. */
    static void refused(String call, Class<? extends RuntimeException> want, Maker maker, Call run) {
        WillKeeper x = maker.keeper();
        throwsAsDue(call, want, x, run);
        throwsAsDue(call + " again", want, x, run);
        samePicture(call, maker.keeper(), x);
    }

    /** The call answers and has changed nothing. */
    static void unchanged(String call, Maker maker, Call run) {
        WillKeeper x = maker.keeper();
        run.answer(x);
        samePicture(call, maker.keeper(), x);
    }

    private static void samePicture(String call, WillKeeper fresh, WillKeeper called) {
        if (!picture(fresh).equals(picture(called))) {
            wrong++;
            System.out.println(call + " changed something");
        }
    }

    static void throwsAsDue(String call, Class<? extends RuntimeException> want, WillKeeper x, Call run) {
        String got = "nothing";
        try {
            run.answer(x);
        } catch (RuntimeException e) {
            got = e.getClass().getName();
        }
        if (!got.equals(want.getName())) {
            wrong++;
            System.out.println(call + " throws " + got + ", due is " + want.getName());
        }
    }

    /** All that a keeper of few objects can tell; the keeper is spent by it. */
    private static String picture(WillKeeper x) {
        StringBuilder text = new StringBuilder();
        for (int what = 0; what <= 8; what++) {
            text.append(x.count(what)).append(' ');
        }
        int shown = Math.min(8, x.count(8));
        for (int place = 0; place < shown; place++) {
            text.append('q').append(x.queued(place)).append(' ');
        }
        for (int k = 0; k < shown; k++) {
            text.append(pictureOf(x, k));
        }
        for (int root = 0; root < 16; root++) {
            text.append('r').append(x.root(root, NONE)).append(' ');
        }
        return text.toString();
    }

    private static String pictureOf(WillKeeper x, int k) {
        StringBuilder text = new StringBuilder("| ");
        try {
            for (int what = 0; what <= 3; what++) {
                text.append(x.about(k, what)).append(' ');
            }
            int fields = x.about(k, 1);
            for (int field = 0; field < fields; field++) {
                text.append(x.get(k, field)).append(' ');
            }
            text.append('i').append(x.identity(k)).append(' ');
        } catch (NoSuchElementException e) {
            text.append("gone ");
        }
        return text.toString();
    }

    static void makeMany(WillKeeper x, int count, int kind, int fields) {
        for (int i = 0; i < count; i++) {
            x.make(kind, fields);
        }
    }

    static boolean allRightSoFar() {
        return wrong == 0;
    }

    static void end() {
        System.out.println(wrong == 0 ? "all answers are as due" : wrong + " answers are not as due");
        if (wrong != 0) {
            System.exit(1);
        }
    }
}
