/** Promises 1 to 46: runs of changes and looks, at the end of which all is looked at. */
final class ModelTest {
    private static final int RUNS = 1500;
    /** The last looks need some 170 calls. */
    private static final int CALLS = 340;

    private ModelTest() {}

    public static void main(String[] args) {
        for (int number = 0; number < RUNS; number++) {
            go(new ModelRun("run " + number, number, number % 3 == 0));
        }
        Check.end();
    }

    private static void go(ModelRun run) {
        run.addPlayers();
        while (run.asked() < CALLS) {
            run.change();
            if (run.below(6) == 0) {
                run.look();
            }
        }
        run.look();
        run.lookAtAll();
        run.both("isConsistent", run.x::isConsistent, () -> true);
        if (run.asked() == ModelRun.MOST_CALLS) {
            throw new AssertionError("no call was left for the last looks");
        }
    }
}
