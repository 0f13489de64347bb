/** The promises 40 to 46: the line, the statistics, undo and the snapshot. */
final class StatePromises {
    private static final Class<IndexOutOfBoundsException> INDEX = IndexOutOfBoundsException.class;
    private static final Class<IllegalStateException> STATE = IllegalStateException.class;
    private static final String ON_HILL = "Returns the number of stones on the hill.";

    private StatePromises() {}

    static void all() {
        Promise.holds(40, "describeRow", "Writes a row of the hill to the line, replacing its previous content:"
                + " for each of its cells the height, then the letter of the player to whom it belongs, if it"
                + " belongs to one, and then \"*\" if it is a peak, with a blank between two cells. The letters"
                + " of the players 0 to 3 are a to d. An example is \"0 3a 5b* 2 0\".",
                "Returns the length of the line.", StatePromises::describeRow);
        Promise.holds(41, "lineAt", "Returns a character of the line. The line is initially empty.",
                "Returns the character.", StatePromises::lineAt);
        Promise.holds(42, "meanAvalanche", "Returns the mean number of topples of the avalanches so far: the"
                + " number of topples divided by the number of avalanches, both converted to double.",
                "Returns the mean.", StatePromises::meanAvalanche);
        Promise.holds(43, "isConsistent", "Checks the invariants: no cell is unstable; stonesOnHill() equals"
                + " stonesByLevels(); the stones placed are those on the hill, lost and taken; and topplesIf()"
                + " equals topplesIfByScan() for 1 stone and for 9 stones on each cell.",
                "Returns whether all of them hold.", StatePromises::isConsistent);
        Promise.holds(44, "undo", "Undoes the latest change that has not been undone.",
                "Returns the number of changes that can still be undone.", StatePromises::undo);
        Promise.holds(45, "save", "Saves everything that changes can change as the snapshot, replacing an"
                + " earlier snapshot.", ON_HILL, StatePromises::save);
        Promise.holds(46, "restore", "Restores the snapshot, which is kept. After the call no change can be"
                + " undone.", ON_HILL, StatePromises::restore);
    }

    private static void describeRow() {
        HillContest x = Hills.withPlayers(60, 60, 60, 60);
        x.setSlope(6);
        x.drop(0, 11, 3);
        x.drop(1, 12, 5);
        x.pile(13, 2);
        Check.same("the example", Hills.row(x, 2), "0 3a 5b* 2 0");
        Check.same("its length", x.describeRow(2), 12);
        x.drop(2, 20, 1);
        x.drop(3, 24, 1);
        x.pile(22, 4);
        Check.same("c, d and nobody", Hills.row(x, 4), "1c* 0 4* 0 1d*");
        Check.same("a shorter one", x.describeRow(0), 9);
        Check.fails("replaces it", INDEX, () -> x.lineAt(9));
        Check.fails("no row -1", INDEX, () -> x.describeRow(-1));
        Check.fails("no row 5", INDEX, () -> x.describeRow(5));
        Check.same("which leaves the line", Hills.line(x, 9), "0 0 0 0 0");
    }

    private static void lineAt() {
        HillContest x = Hills.withPlayers(60);
        Check.fails("initially empty", INDEX, () -> x.lineAt(0));
        x.drop(0, 2, 2);
        int length = x.describeRow(0);
        Check.same("the length", length, 11);
        String due = "0 0 2a* 0 0";
        for (int index = 0; index < length; index++) {
            Check.same("lineAt(" + index + ")", x.lineAt(index), due.charAt(index));
        }
        for (int wrong : new int[] {-1, length, Integer.MIN_VALUE, Integer.MAX_VALUE}) {
            Check.fails("lineAt(" + wrong + ")", INDEX, () -> x.lineAt(wrong));
        }
    }

    private static void meanAvalanche() {
        HillContest x = new HillContest();
        Check.fails("no avalanche", ArithmeticException.class, x::meanAvalanche);
        x.pile(0, 3);
        Check.same("1 of 1", x.meanAvalanche(), 1.0);
        x.pile(4, 3);
        x.pile(24, 9);
        Check.same("8 of 3", x.meanAvalanche(), 8.0 / 3.0);
        Check.same("so far", x.toppleTotal() + " " + x.avalancheCount(), "8 3");
    }

    private static void isConsistent() {
        HillContest x = Hills.withPlayers(60);
        Check.yes("an empty hill", x.isConsistent());
        x.drop(0, 12, 9);
        x.take(0, 12);
        x.setBorder(true);
        x.pile(0, 9);
        Check.yes("stones placed, taken and lost", x.takenTotal() > 0 && x.lostTotal() > 0);
        String before = Hills.everything(x);
        Check.yes("consistent", x.isConsistent());
        Check.same("nothing has changed", Hills.everything(x), before);
        Check.yes("a full hill", Pasts.full().isConsistent());
    }

    private static void undo() {
        HillContest x = new HillContest();
        Check.fails("no change", STATE, x::undo);
        for (int stones = 0; stones < 10; stones++) {
            x.pile(2 * stones, 1);
        }
        for (int left = 7; left >= 0; left--) {
            Check.same("undo", x.undo() + " " + x.stonesOnHill(), left + " " + (left + 2));
        }
        Check.fails("a ninth", STATE, x::undo);
        x.pile(24, 2);
        Check.same("a new change", x.undo() + " " + x.stonesOnHill(), "0 2");
    }

    private static void save() {
        HillContest x = Hills.withPlayers(60);
        Check.same("an empty hill", x.save(), 0);
        x.drop(0, 12, 9);
        Check.same("a later one", x.save(), 9);
        String saved = Hills.everything(x);
        x.undo();
        x.setBorder(true);
        Check.same("no change was saved away", x.undo() + " " + x.stonesOnHill(), "1 0");
        Check.same("the later one", x.restore(), 9);
        Check.same("is back", Hills.everything(x), saved);
    }

    private static void restore() {
        HillContest x = Hills.withPlayers(60);
        Check.fails("no snapshot", STATE, x::restore);
        x.drop(0, 12, 2);
        x.save();
        String saved = Hills.everything(x);
        for (int turn = 0; turn < 2; turn++) {
            x.addPlayer(5);
            x.pile(0, 9);
            x.setSlope(2);
            x.setBorder(true);
            x.take(0, 12);
            Check.no("changed", Hills.everything(x).equals(saved));
            Check.same("restore", x.restore(), 2);
            Check.same("all is back", Hills.everything(x), saved);
            Check.fails("nothing to undo", STATE, x::undo);
        }
    }
}
