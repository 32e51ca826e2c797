/** The example of README.md, call by call: whoever changes the one changes the other. */
public final class ReadmeTest extends Checks {
    public static void main(String[] args) {
        WillKeeper keeper = new WillKeeper();
        int cache = keeper.make(WillKeeper.WEAK, 1);
        int file = keeper.make(WillKeeper.FINAL, 0);
        keeper.root(0, cache);
        keeper.set(cache, 0, file);
        due("clear()", 1, keeper.clear());
        due("get(cache, 0)", NONE, keeper.get(cache, 0));
        due("take()", file, keeper.take());
        due("sweep()", 1, keeper.sweep());
        throwsAsDue("the file has gone", MISSING, keeper, x -> x.about(file, 0));
        due("the cache is there", WEAK, keeper.about(cache, 0));
        end();
    }
}
