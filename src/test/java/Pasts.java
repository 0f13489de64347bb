/** Contests with a past in which calls are asked what they must refuse. */
final class Pasts {
    private Pasts() {}

    static HillContest fresh() {
        return new HillContest();
    }

    /** The three players of busy() before run was ever called; the command text is empty. */
    static HillContest played() {
        HillContest x = Hills.withPlayers(60, 60, 9);
        x.pile(24, 9);
        x.drop(1, 4, 2);
        x.drop(2, 12, 2);
        x.drop(0, 24, 9);
        x.save();
        x.setSlope(4);
        x.setBorder(true);
        x.drop(1, 4, 1);
        x.pile(8, 1);
        x.undo();
        x.skip();
        x.describeRow(2);
        return x;
    }

    /**
     * Three players, of whom the first rests (1) and the third has 7 stones; a snapshot, changes, an
     * undone change, a command text, a line, an error position and a failed command. The cell 0
     * has no stones, 4 and 12 have stones of the players 1 and 2, 8 has one of nobody.
     */
    static HillContest busy() {
        HillContest x = played();
        x.pile(8, 1);
        Look.answer(() -> Hills.runText(x, "slop"));
        Look.answer(() -> Hills.runText(x, "skip;slope 9"));
        Hills.write(x, "skip;slope 5");
        return x;
    }

    /** What the tests take for granted of busy(). */
    static void checkBusy() {
        HillContest x = busy();
        Check.same("busy: rests", x.rest(0) + " " + x.rest(1) + " " + x.rest(2), "1 0 0");
        Check.same("busy: hands", x.hand(0) + " " + x.hand(1) + " " + x.hand(2), "51 57 7");
        Check.same("busy: heights", Hills.heights(x), "0 0 0 0 3/0 0 0 1 0/0 0 2 0 2/0 0 0 2 3/0 0 2 3 3");
        Check.same("busy: owners", Hills.owners(x), "....1/...../..2.0/...00/..000");
        Check.same("busy: errors", Look.errors(x), "4 1");
        Check.same("busy: command text", x.append('z'), 13);
    }

    /** 297 stones, piled by nines all over the hill, and more than 8 changes. */
    static HillContest almostFull() {
        HillContest x = new HillContest();
        for (int i = 0; i < 33; i++) {
            x.pile(7 * i % 25, 9);
        }
        return x;
    }

    /** 300 stones, four players and 60 characters. */
    static HillContest full() {
        HillContest x = almostFull();
        x.pile(3, 3);
        for (int stones : new int[] {60, 60, 60, 1}) {
            x.addPlayer(stones);
        }
        Hills.write(x, "skip;".repeat(12));
        return x;
    }
}
