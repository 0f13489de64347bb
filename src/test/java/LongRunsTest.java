import java.util.NoSuchElementException;

/** "An object is used for at most 512 calls": runs of so many calls, asked to the last of them. */
final class LongRunsTest {
    private static final int MOST = ModelRun.MOST_CALLS;
    private static final int RUNS_OF_EACH = 6;
    /** Room for a command text that the last call runs. */
    private static final int CALLS_BEFORE_THE_TEXT = MOST - 70;

    private LongRunsTest() {}

    public static void main(String[] args) {
        for (int call = 0; call < AnyCall.COUNT; call++) {
            for (int number = 0; number < RUNS_OF_EACH; number++) {
                endingWith(call, number);
                againAndAgain(call, number);
            }
        }
        for (int number = 0; number < 40 * RUNS_OF_EACH; number++) {
            mixed(number);
        }
        counted();
        Check.end();
    }

    /** Many changes, and then the call as the last of all. */
    private static void endingWith(int call, int number) {
        ModelRun run = new ModelRun("ending " + number + " with " + call, 100 * number + call, number % 2 == 0);
        run.addPlayers();
        changeUpTo(run, CALLS_BEFORE_THE_TEXT);
        if (call == AnyCall.RUN) {
            AnyCall.ask(run, AnyCall.RUN);
            run.write();
            lookUpTo(run, MOST - 1);
        } else {
            changeUpTo(run, MOST - 1);
        }
        run.stopAt(MOST);
        AnyCall.ask(run, call);
        hasAskedAll(run);
    }

    /** Some changes, and then the same call to the last. */
    private static void againAndAgain(int call, int number) {
        ModelRun run = new ModelRun("only " + call + " in " + number, 100 * number + call, number % 2 == 1);
        run.addPlayers();
        changeUpTo(run, 80 * number);
        run.stopAt(MOST);
        while (run.asked() < MOST) {
            AnyCall.ask(run, call);
        }
        hasAskedAll(run);
    }

    /** Any calls in any order. */
    private static void mixed(int number) {
        ModelRun run = new ModelRun("mixed " + number, number, number % 2 == 0);
        run.addPlayers();
        while (run.asked() < MOST) {
            if (run.below(3) > 0) {
                AnyCall.ask(run, run.below(AnyCall.COUNT));
            } else {
                run.change();
            }
        }
        hasAskedAll(run);
    }

    private static void changeUpTo(ModelRun run, int calls) {
        run.stopAt(calls);
        while (run.asked() < calls) {
            run.change();
        }
    }

    private static void lookUpTo(ModelRun run, int calls) {
        run.stopAt(calls);
        while (run.asked() < calls) {
            run.look();
        }
    }

    private static void hasAskedAll(ModelRun run) {
        Check.same("calls asked", run.asked(), MOST);
    }

    /** Runs whose last answers can be told without a model; each of them counts its calls. */
    private static void counted() {
        dropsAndTakes();
        piles();
        skips();
        texts();
        snapshots();
        checksOfAFullHill();
    }

    private static void dropsAndTakes() {
        HillContest x = Hills.withPlayers(60);
        for (int call = 2; call < MOST; call += 2) {
            x.drop(0, call % 25, 1);
            x.take(0, call % 25);
        }
        Check.same("call 512: takenTotal", x.takenTotal(), 255);
        HillContest y = Hills.withPlayers(60);
        for (int call = 2; call < MOST; call += 2) {
            y.pile(12, 1);
            y.undo();
        }
        Check.same("call 512: undo", y.undo(), 0);
    }

    private static void piles() {
        HillContest x = new HillContest();
        x.setBorder(true);
        for (int call = 2; call < MOST; call++) {
            x.pile(0, 9);
        }
        Check.same("call 512: placedTotal", x.placedTotal(), 9 * 510);
        HillContest full = new HillContest();
        int stones = 0;
        for (int call = 1; call < MOST; call++) {
            try {
                full.pile(call % 25, 1);
                stones++;
            } catch (IllegalStateException e) {
                Check.same("full at the call " + call, stones, 300);
            }
        }
        Check.same("call 512: stonesByLevels", full.stonesByLevels(), 300);
    }

    private static void skips() {
        HillContest x = Hills.withPlayers(60, 60);
        for (int call = 3; call < MOST; call++) {
            x.skip();
        }
        Check.same("call 512: undo", x.undo(), 7);
        HillContest y = new HillContest();
        for (int call = 1; call <= MOST - 9; call++) {
            y.setSlope(2 + call % 5);
        }
        for (int left = 7; left >= 0; left--) {
            Check.same("call " + (MOST - 1 - left) + ": undo", y.undo(), left);
        }
        Check.same("call 512: criticalSlope", y.criticalSlope(), 2 + (MOST - 17) % 5);
    }

    private static void texts() {
        HillContest x = new HillContest();
        for (int call = 1; call < MOST; call++) {
            try {
                Check.same("call " + call + ": append", x.append("skip;".charAt((call - 1) % 5)), call);
            } catch (IllegalStateException e) {
                Check.yes("call " + call + " is beyond 60", call > 60);
            }
        }
        Check.fails("call 512: run, behind the last semicolon", IllegalArgumentException.class, x::run);
        HillContest y = new HillContest();
        int runs = 0;
        for (int call = 1; call < MOST - 1; call += 5) {
            Check.same("run", Hills.runText(y, "skip"), 1);
            runs++;
        }
        Check.same("102 runs", runs, 102);
        Check.fails("call 511: errorPosition", NoSuchElementException.class, y::errorPosition);
        Check.same("call 512: undo", y.undo(), 7);
    }

    private static void snapshots() {
        HillContest x = Hills.withPlayers(60);
        x.pile(12, 2);
        Check.same("call 3: save", x.save(), 2);
        for (int call = 4; call < MOST; call += 2) {
            x.pile(call % 25, 9);
            Check.same("call " + (call + 1) + ": restore", x.restore(), 2);
        }
        Check.same("call 512: placedTotal", x.placedTotal(), 2);
    }

    private static void checksOfAFullHill() {
        HillContest x = Pasts.almostFull();
        x.pile(3, 3);
        for (int call = 35; call <= MOST; call++) {
            Check.yes("call " + call + ": isConsistent", x.isConsistent());
        }
    }
}
