import java.lang.reflect.Field;

/** Promises 40 to 46: the line, the check of the invariants, undo and the snapshot. */
final class StateTest {
    private static final Class<IndexOutOfBoundsException> INDEX = IndexOutOfBoundsException.class;
    private static final Class<IllegalStateException> STATE = IllegalStateException.class;

    public static void main(String[] args) {
        describeRow();
        lettersAndRows();
        longLine();
        lineStays();
        lineFails();
        isConsistent();
        isNotConsistent();
        isNotConsistentWhereTriesDiffer();
        undo();
        undoEachKind();
        eightChanges();
        changesWithoutEffect();
        whatIsNoChange();
        runIsOneChange();
        whatIsNotUndone();
        save();
        restore();
        restoreEndsUndo();
        whatIsNotRestored();
        Check.end();
    }

    private static void describeRow() {
        HillContest x = Hills.withPlayers(60, 60);
        Check.fails("P41 the line is initially empty", INDEX, () -> x.lineAt(0));
        Check.same("P40 an empty row", Hills.row(x, 0), "0 0 0 0 0");
        Check.same("P40 its length", x.describeRow(0), 9);
        x.setSlope(6);
        x.drop(0, 11, 3);
        x.drop(1, 12, 5);
        x.pile(13, 2);
        Check.same("P40 the example", Hills.row(x, 2), "0 3a 5b* 2 0");
        Check.same("P40 its length", x.describeRow(2), 12);
        x.pile(14, 4);
        Check.same("P40 nobody's peak", Hills.row(x, 2), "0 3a 5b* 2 4*");
    }

    private static void lettersAndRows() {
        HillContest x = Hills.withPlayers(9, 9, 9, 9);
        for (int row = 0; row < 4; row++) {
            x.drop(row, 6 * row, 1 + row % 2);
        }
        x.pile(24, 1);
        x.pile(23, 1);
        String[] rows = {"1a* 0 0 0 0", "0 2b* 0 0 0", "0 0 1c* 0 0", "0 0 0 2d* 0", "0 0 0 1 1"};
        for (int row = 0; row < 5; row++) {
            Check.same("P40 row " + row, Hills.row(x, row), rows[row]);
        }
    }

    private static void longLine() {
        HillContest x = Hills.withPlayers(60, 60);
        x.setSlope(6);
        for (int i = 0; i < 33; i++) {
            x.pile(7 * i % 25, 9);
        }
        x.drop(1, 2, 1);
        String due = x.height(0) + " " + x.height(1) + " " + x.height(2) + "b " + x.height(3) + " " + x.height(4);
        String line = Hills.row(x, 0);
        Check.same("P40 numbers of two digits", line.replace("*", ""), due);
        Check.yes("P40 are there", line.length() > 12);
    }

    private static void lineStays() {
        HillContest x = Hills.withPlayers(60);
        x.drop(0, 0, 2);
        Check.same("P40 a longer line", Hills.row(x, 0), "2a* 0 0 0 0");
        x.save();
        Check.same("P40 replaces it", x.describeRow(1), 9);
        Check.fails("P41 the rest is gone", INDEX, () -> x.lineAt(9));
        x.pile(5, 1);
        x.undo();
        x.restore();
        Check.same("P41 the line stays as it was written", Hills.line(x, 9), "0 0 0 0 0");
        x.describeRow(0);
        Check.fails("P40 a wrong row", INDEX, () -> x.describeRow(5));
        Check.same("P41 leaves the line", Hills.line(x, 11), "2a* 0 0 0 0");
    }

    private static void lineFails() {
        HillContest x = new HillContest();
        int[] rows = {-1, 5, 6, 24, Integer.MIN_VALUE, Integer.MAX_VALUE};
        for (int row : rows) {
            Check.fails("P40 describeRow(" + row + ")", INDEX, () -> x.describeRow(row));
        }
        Check.fails("P41 still empty", INDEX, () -> x.lineAt(0));
        x.describeRow(4);
        Check.same("P41 the first", x.lineAt(0), '0');
        Check.same("P41 the last", x.lineAt(8), '0');
        Check.same("P41 a blank", x.lineAt(7), ' ');
        int[] indices = {-1, 9, 10, 16, Integer.MIN_VALUE, Integer.MAX_VALUE};
        for (int index : indices) {
            Check.fails("P41 lineAt(" + index + ")", INDEX, () -> x.lineAt(index));
        }
    }

    private static void isConsistent() {
        HillContest x = Hills.withPlayers(60, 60);
        Check.yes("P43 an empty hill", x.isConsistent());
        for (int i = 0; i < 60; i++) {
            x.setSlope(2 + i % 5);
            x.setBorder(i % 7 < 2);
            if (i % 10 < 2 && x.rest(i % 10) == 0) {
                x.drop(i % 10, i % 25, 1 + i % 4);
                x.take(i % 10, x.owner(i % 25) == i % 10 ? i % 25 : 0);
            }
            if (x.stonesOnHill() < 290) {
                x.pile(11 * i % 25, 9);
            }
            String before = Hills.everything(x);
            Check.yes("P43 step " + i, x.isConsistent());
            if (i % 20 == 0) {
                Check.same("P43 changes nothing", Hills.everything(x), before);
            }
        }
        Check.yes("P34 some were lost", x.lostTotal() > 0);
    }

    /** No call breaks an invariant, so that the fields must be reached for. */
    private static void isNotConsistent() {
        HillContest unstable = new HillContest();
        heights(unstable)[12] = 5;
        setPlaced(unstable, 5);
        Check.no("P43 an unstable cell", unstable.isConsistent());
        heights(unstable)[12] = 2;
        setPlaced(unstable, 2);
        Check.yes("P43 at rest", unstable.isConsistent());
        setPlaced(unstable, 3);
        Check.no("P43 a stone placed, but not there", unstable.isConsistent());
        heights(unstable)[12] = 0;
        heights(unstable)[3] = -1;
        setPlaced(unstable, -1);
        Check.no("P43 cells and levels differ", unstable.isConsistent());
    }

    /**
     * A trial on the contest's own hill leaves its stones there, so that the second try finds another
     * hill than the first: 1 stone twice on each cell makes no difference, 9 on the first cell do.
     */
    private static void isNotConsistentWhereTriesDiffer() {
        HillContest x = new HillContest();
        setField(field(x, "trial"), "hill", field(field(x, "now"), "hill"));
        Check.no("P43 the tries differ", x.isConsistent());
        Check.same("P43 tried 1 stone on each cell and 9 on the first", x.stonesOnHill(), 25 * 2 + 9 * 2);
    }

    private static int[] heights(HillContest contest) {
        return (int[]) field(field(field(contest, "now"), "hill"), "heights");
    }

    private static Object field(Object holder, String name) {
        try {
            Field field = holder.getClass().getDeclaredField(name);
            field.setAccessible(true);
            return field.get(holder);
        } catch (ReflectiveOperationException e) {
            throw new AssertionError(e);
        }
    }

    private static void setPlaced(HillContest contest, int stones) {
        setField(field(contest, "now"), "placed", stones);
    }

    private static void setField(Object holder, String name, Object value) {
        try {
            Field field = holder.getClass().getDeclaredField(name);
            field.setAccessible(true);
            field.set(holder, value);
        } catch (ReflectiveOperationException e) {
            throw new AssertionError(e);
        }
    }

    private static void undo() {
        HillContest x = new HillContest();
        Check.fails("P44 no change", STATE, x::undo);
        x.pile(0, 1);
        x.pile(1, 1);
        Check.same("P44 one more can be undone", x.undo(), 1);
        Check.same("P44 the latest first", x.height(0) + " " + x.height(1), "1 0");
        x.pile(2, 1);
        Check.same("P44 a new change after an undo", x.undo(), 1);
        Check.same("P44 the first", x.undo(), 0);
        Check.same("P44 an empty hill", x.stonesOnHill(), 0);
        Check.fails("P44 no change is left", STATE, x::undo);
    }

    private static void undone(String kind, HillContest contest, Runnable change) {
        String before = Hills.everything(contest);
        change.run();
        Check.no("P44 " + kind + " changes something", Hills.everything(contest).equals(before));
        contest.undo();
        Check.same("P44 " + kind + " undone", Hills.everything(contest), before);
    }

    private static void undoEachKind() {
        HillContest x = Hills.withPlayers(60, 60);
        x.setBorder(true);
        x.drop(0, 12, 9);
        undone("addPlayer", x, () -> x.addPlayer(7));
        undone("drop", x, () -> x.drop(1, 0, 9));
        undone("drop on another's cell", x, () -> x.drop(1, 12, 1));
        undone("pile", x, () -> x.pile(4, 9));
        undone("take", x, () -> x.take(0, 12));
        undone("skip", x, x::skip);
        undone("setSlope", x, () -> x.setSlope(2));
        undone("setBorder", x, () -> x.setBorder(false));
        undone("run", x, () -> Hills.runText(x, "close;slope 6;player 5;drop 2 0 5;pile 24 9"));
        x.addPlayer(7);
        x.undo();
        Check.fails("P44 the player is gone", INDEX, () -> x.hand(2));
        Check.same("P44 and comes again", x.addPlayer(8), 2);
        Check.same("P44 with another hand", x.hand(2) + " " + x.rest(2), "8 0");
    }

    private static void eightChanges() {
        HillContest x = new HillContest();
        for (int i = 0; i < 11; i++) {
            x.pile(2 * i, 1);
        }
        for (int left = 7; left >= 0; left--) {
            Check.same("P44 of eight", x.undo(), left);
        }
        Check.fails("P44 the ninth", STATE, x::undo);
        Check.same("P44 three are left", Hills.heights(x), "1 0 1 0 1/0 0 0 0 0/0 0 0 0 0/0 0 0 0 0/0 0 0 0 0");
        for (int i = 0; i < 5; i++) {
            x.pile(24, 1);
        }
        for (int left = 4; left >= 0; left--) {
            Check.same("P44 of five more", x.undo(), left);
        }
        Check.fails("P44 the sixth", STATE, x::undo);
        Check.same("P44 three are left", x.stonesOnHill(), 3);
    }

    private static void changesWithoutEffect() {
        HillContest x = new HillContest();
        x.skip();
        x.setSlope(3);
        x.setBorder(false);
        Hills.runText(x, "skip");
        Hills.runText(x, "close;slope 3");
        for (int left = 4; left >= 0; left--) {
            Check.same("P44 without effect", x.undo(), left);
        }
        Check.fails("P44 none is left", STATE, x::undo);
    }

    private static void whatIsNoChange() {
        HillContest x = Hills.withPlayers(2);
        Check.fails("addPlayer", IllegalArgumentException.class, () -> x.addPlayer(0));
        Check.fails("drop", UnsupportedOperationException.class, () -> x.drop(0, 0, 3));
        Check.fails("pile", INDEX, () -> x.pile(25, 1));
        Check.fails("take", java.util.NoSuchElementException.class, () -> x.take(0, 0));
        Check.fails("setSlope", IllegalArgumentException.class, () -> x.setSlope(7));
        Check.fails("run", IllegalArgumentException.class, x::run);
        Check.fails("run", STATE, () -> Hills.runText(x, "skip;slope 7"));
        x.topplesIf(12, 9);
        x.topplesIfByScan(12, 9);
        x.describeRow(0);
        x.append('s');
        x.isConsistent();
        x.save();
        Check.same("P44 only addPlayer is undone", x.undo(), 0);
        Check.same("P44 no player", x.playerCount(), 0);
    }

    private static void runIsOneChange() {
        HillContest x = new HillContest();
        x.pile(24, 1);
        Hills.runText(x, "player 9;drop 0 0 2;skip;open;slope 2");
        Check.same("P44 the run as a whole", x.undo(), 1);
        Check.same("P44 is undone", Hills.everything(x),
                "0 0 0 0 0/0 0 0 0 0/0 0 0 0 0/0 0 0 0 0/0 0 0 0 1 ...../...../...../...../....."
                        + " slope 3 open false totals 0 0 0 1 0 0");
    }

    private static void whatIsNotUndone() {
        HillContest x = new HillContest();
        Hills.write(x, "ski");
        x.pile(0, 1);
        x.pile(1, 1);
        x.describeRow(0);
        x.undo();
        Check.same("P44 the line stays", Hills.line(x, 9), "1 1 0 0 0");
        x.save();
        x.append('p');
        x.restore();
        Check.same("P44 P46 the command text stays", x.run(), 1);
        x.undo();
        Check.same("P44 and does not come back", x.append('a'), 1);
    }

    private static void save() {
        HillContest x = Hills.withPlayers(60);
        Check.same("P45 an empty hill", x.save(), 0);
        x.drop(0, 12, 2);
        Check.same("P45 save", x.save(), 2);
        x.drop(0, 12, 7);
        Check.same("P46 the later snapshot", x.restore(), 2);
        Check.same("P46 the hand", x.hand(0), 58);
        x.pile(0, 9);
        Check.same("P45 11 stones", x.save(), 11);
        Check.same("P46 11 stones", x.restore(), 11);
    }

    private static void restore() {
        HillContest x = Hills.withPlayers(60, 60);
        Check.fails("P46 no snapshot", STATE, x::restore);
        x.setBorder(true);
        x.setSlope(4);
        x.drop(0, 12, 9);
        x.take(0, 12);
        x.pile(0, 9);
        String saved = Hills.everything(x);
        int stones = x.save();
        for (int turn = 0; turn < 3; turn++) {
            x.addPlayer(1 + turn);
            x.drop(1, 24, 9);
            x.setSlope(2);
            x.setBorder(false);
            x.skip();
            Check.no("P46 much has changed", Hills.everything(x).equals(saved));
            Check.same("P46 restore", x.restore(), stones);
            Check.same("P46 all is as it was", Hills.everything(x), saved);
        }
    }

    private static void restoreEndsUndo() {
        HillContest x = new HillContest();
        x.pile(0, 1);
        x.save();
        Check.same("P45 a save leaves what can be undone", x.undo(), 0);
        x.pile(5, 2);
        x.pile(6, 2);
        Check.same("P46 restore", x.restore(), 1);
        Check.fails("P46 no change can be undone", STATE, x::undo);
        Check.same("P46 nothing has changed", x.stonesOnHill(), 1);
        for (int i = 0; i < 9; i++) {
            x.skip();
        }
        Check.same("P44 eight again", x.undo(), 7);
        x.restore();
        Check.fails("P46 no change can be undone", STATE, x::undo);
        x.pile(24, 1);
        Check.same("P46 a change after it", x.undo(), 0);
        Check.same("P46 is undone", x.stonesOnHill(), 1);
    }

    private static void whatIsNotRestored() {
        HillContest x = new HillContest();
        x.save();
        Check.fails("P37", IllegalArgumentException.class, () -> Hills.runText(x, "skit"));
        Check.fails("P37", STATE, () -> Hills.runText(x, "skip;player 0"));
        x.describeRow(0);
        x.append('s');
        x.restore();
        Check.same("P46 the error position stays", x.errorPosition(), 3);
        Check.same("P46 the failed command stays", x.failedCommand(), 1);
        Check.same("P46 the line stays", Hills.line(x, 9), "0 0 0 0 0");
        Check.same("P46 the command text stays", x.append('k'), 2);
    }
}
