import java.util.ArrayList;
import java.util.HashMap;
import java.util.HashSet;
import java.util.List;
import java.util.Map;
import java.util.NoSuchElementException;
import java.util.Random;
import java.util.Set;
import java.util.TreeMap;

/** Many runs of 512 calls, each answer set against a model that is plain sets and the document's words. */
public final class ModelTest {
    private static final int RUNS = 1500;
    private static final int CALLS = 512;
    private static final String[] NAMES = {"make", "set", "get", "root", "clear", "take", "queued", "sweep",
        "identity", "about", "count"};

    /** The document, read literally: no numbers are kept that can be found out anew. */
    private static final class Model {
        final TreeMap<Integer, Integer> kinds = new TreeMap<>();
        final Map<Integer, List<Integer>> fields = new HashMap<>();
        final Map<Integer, Integer> roots = new HashMap<>();
        final List<Integer> queue = new ArrayList<>();
        final Set<Integer> everQueued = new HashSet<>();
        final Map<Integer, Integer> identities = new HashMap<>();
        int made = 0;
        int forgotten = 0;
        int clearings = 0;

        Set<Integer> closure(Set<Integer> start, boolean weakToo) {
            Set<Integer> all = new HashSet<>(start);
            boolean more = true;
            while (more) {
                Set<Integer> next = new HashSet<>(all);
                for (int k : all) {
                    for (int f = 0; f < fields.get(k).size(); f++) {
                        boolean weak = f == 0 && kinds.get(k) == 1;
                        if ((!weak || weakToo) && fields.get(k).get(f) != -1) {
                            next.add(fields.get(k).get(f));
                        }
                    }
                }
                more = next.size() > all.size();
                all = next;
            }
            return all;
        }

        Set<Integer> rootsAndQueue() {
            Set<Integer> start = new HashSet<>(queue);
            start.addAll(roots.values());
            start.remove(-1);
            return start;
        }

        Set<Integer> reached() {
            return closure(rootsAndQueue(), false);
        }

        List<Integer> waiting() {
            List<Integer> waiting = new ArrayList<>();
            for (int k : kinds.keySet()) {
                if (kinds.get(k) == 2 && !everQueued.contains(k)) {
                    waiting.add(k);
                }
            }
            return waiting;
        }

        Set<Integer> kept() {
            Set<Integer> start = rootsAndQueue();
            start.addAll(waiting());
            return closure(start, true);
        }

        void need(boolean there) {
            if (!there) {
                throw new NoSuchElementException();
            }
        }

        void allow(boolean allowed) {
            if (!allowed) {
                throw new IllegalArgumentException();
            }
        }

        boolean has(int k) {
            return kinds.containsKey(k);
        }

        int make(int kind, int count) {
            allow(kind >= 0 && kind <= 2 && count >= 0 && count <= 12 && !(kind == 1 && count == 0));
            if (made == 300) {
                throw new IllegalStateException();
            }
            kinds.put(made, kind);
            fields.put(made, new ArrayList<>());
            for (int f = 0; f < count; f++) {
                fields.get(made).add(-1);
            }
            return made++;
        }

        int get(int k, int field) {
            need(has(k) && field >= 0 && field < fields.get(k).size());
            return fields.get(k).get(field);
        }

        int set(int k, int field, int other) {
            get(k, field);
            need(other == -1 || has(other));
            return fields.get(k).set(field, other);
        }

        int root(int root, int k) {
            need(root >= 0 && root <= 15 && (k == -1 || has(k)));
            Integer had = roots.put(root, k);
            return had == null ? -1 : had;
        }

        int clear() {
            Set<Integer> before = reached();
            List<Integer> coming = waiting();
            coming.removeAll(before);
            queue.addAll(coming);
            everQueued.addAll(coming);
            for (int k : reached()) {
                if (kinds.get(k) == 1 && fields.get(k).get(0) != -1 && !before.contains(fields.get(k).get(0))) {
                    fields.get(k).set(0, -1);
                    forgotten++;
                }
            }
            clearings++;
            return coming.size();
        }

        int take() {
            if (queue.isEmpty()) {
                return -1;
            }
            int k = queue.remove(0);
            kinds.put(k, 0);
            return k;
        }

        int queued(int k) {
            allow(k >= 0);
            return k < queue.size() ? queue.get(k) : -1;
        }

        int sweep() {
            Set<Integer> going = new HashSet<>(kinds.keySet());
            going.removeAll(kept());
            kinds.keySet().removeAll(going);
            fields.keySet().removeAll(going);
            return going.size();
        }

        int identity(int k) {
            need(has(k));
            identities.putIfAbsent(k, identities.size());
            return identities.get(k);
        }

        int about(int k, int what) {
            need(has(k));
            allow(what >= 0 && what <= 3);
            return what == 0 ? kinds.get(k) : what == 1 ? fields.get(k).size()
                : (what == 2 ? reached() : kept()).contains(k) ? 1 : 0;
        }

        int count(int what) {
            allow(what >= 0 && what <= 8);
            int[] counts = {kinds.size(), reached().size(), kept().size(), queue.size(), waiting().size(), forgotten,
                clearings, identities.size(), made};
            return counts[what];
        }
    }

    private static String ofModel(Model m, int call, int a, int b, int c) {
        try {
            switch (call) {
                case 0: return "" + m.make(a, b);
                case 1: return "" + m.set(a, b, c);
                case 2: return "" + m.get(a, b);
                case 3: return "" + m.root(a, b);
                case 4: return "" + m.clear();
                case 5: return "" + m.take();
                case 6: return "" + m.queued(a);
                case 7: return "" + m.sweep();
                case 8: return "" + m.identity(a);
                case 9: return "" + m.about(a, b);
                default: return "" + m.count(a);
            }
        } catch (RuntimeException e) {
            return "throws." + e.getClass().getSimpleName();
        }
    }

    private static String ofKeeper(WillKeeper x, int call, int a, int b, int c) {
        try {
            switch (call) {
                case 0: return "" + x.make(a, b);
                case 1: return "" + x.set(a, b, c);
                case 2: return "" + x.get(a, b);
                case 3: return "" + x.root(a, b);
                case 4: return "" + x.clear();
                case 5: return "" + x.take();
                case 6: return "" + x.queued(a);
                case 7: return "" + x.sweep();
                case 8: return "" + x.identity(a);
                case 9: return "" + x.about(a, b);
                default: return "" + x.count(a);
            }
        } catch (RuntimeException e) {
            return "throws." + e.getClass().getSimpleName();
        }
    }

    /** Mostly an object that is there, at times one that is not. */
    private static int someObject(Random random, Model m) {
        if (random.nextInt(25) == 0 || m.kinds.isEmpty()) {
            int[] odd = {-2, -1, m.made, 299, 300, Integer.MIN_VALUE, Integer.MAX_VALUE, random.nextInt(m.made + 1)};
            return odd[random.nextInt(odd.length)];
        }
        List<Integer> there = new ArrayList<>(m.kinds.keySet());
        return there.get(random.nextInt(there.size()));
    }

    private static int someOther(Random random, Model m) {
        return random.nextInt(4) == 0 ? -1 : someObject(random, m);
    }

    private static int someField(Random random, Model m, int k) {
        int count = m.has(k) ? m.fields.get(k).size() : 0;
        return random.nextInt(20) == 0 || count == 0 ? random.nextInt(15) - 1 : random.nextInt(count);
    }

    private static int someCall(Random random, int[] weights) {
        int sum = 0;
        for (int weight : weights) {
            sum += weight;
        }
        int at = random.nextInt(sum);
        int call = 0;
        while (at >= weights[call]) {
            at -= weights[call];
            call++;
        }
        return call;
    }

    private static int[] arguments(Random random, Model m, int call) {
        int k = someObject(random, m);
        switch (call) {
            case 0: return new int[] {random.nextInt(30) == 0 ? random.nextInt(7) - 2 : random.nextInt(3),
                random.nextInt(30) == 0 ? random.nextInt(18) - 2 : random.nextInt(4) == 0 ? random.nextInt(13)
                    : random.nextInt(3), 0};
            case 1: return new int[] {k, someField(random, m, k), someOther(random, m)};
            case 2: return new int[] {k, someField(random, m, k), 0};
            case 3: return new int[] {random.nextInt(20) == 0 ? random.nextInt(19) - 1 : random.nextInt(5),
                someOther(random, m), 0};
            case 6: return new int[] {random.nextInt(m.queue.size() + 3) - 1, 0, 0};
            case 9: return new int[] {k, random.nextInt(20) == 0 ? random.nextInt(7) - 2 : random.nextInt(4), 0};
            case 10: return new int[] {random.nextInt(20) == 0 ? random.nextInt(13) - 2 : random.nextInt(9), 0, 0};
            default: return new int[] {k, 0, 0};
        }
    }

    private static boolean runIsRight(int run) {
        Random random = new Random(run);
        int[] weights = {run % 7 == 0 ? 200 : 2 + random.nextInt(10), 30, 10, 10, 1 + random.nextInt(5),
            1 + random.nextInt(5), 3, random.nextInt(4), 4, 10, 10};
        WillKeeper x = new WillKeeper();
        Model m = new Model();
        for (int i = 0; i < CALLS; i++) {
            int call = someCall(random, weights);
            int[] a = arguments(random, m, call);
            String want = ofModel(m, call, a[0], a[1], a[2]);
            String got = ofKeeper(x, call, a[0], a[1], a[2]);
            if (!want.equals(got)) {
                System.out.println("run " + run + ", call " + i + ": " + NAMES[call] + " of " + a[0] + ", " + a[1]
                    + ", " + a[2] + " answered " + got + ", due is " + want);
                return false;
            }
        }
        return true;
    }

    public static void main(String[] args) {
        int wrong = 0;
        for (int run = 0; run < RUNS; run++) {
            if (!runIsRight(run)) {
                wrong++;
            }
        }
        System.out.println(wrong == 0 ? RUNS + " runs are as due" : wrong + " runs are not as due");
        if (wrong != 0) {
            System.exit(1);
        }
    }
}
