import java.util.function.Consumer;

/** The term "Changes" and the promises 40, 41 and 43 to 46, sentence by sentence. */
final class StateBounds {
    private static final Class<IndexOutOfBoundsException> INDEX = IndexOutOfBoundsException.class;
    private static final Class<IllegalStateException> STATE = IllegalStateException.class;

    private StateBounds() {}

    static void all() {
        changes();
        line();
        Sentence.holds("Promise 43", "Returns whether all of them hold.", StateBounds::isConsistent);
        undo();
        snapshot();
    }

    private static void changes() {
        String section = "Changes";
        Sentence.holds(section, "A change is a successful call of addPlayer, drop, pile, take, skip,"
                + " setSlope, setBorder or run", StateBounds::kinds);
        Sentence.holds(section, "A successful call is a change even if nothing differs afterwards",
                StateBounds::withoutEffect);
        Sentence.holds(section, "A call of run that carries out several commands is one change",
                StateBounds::severalCommands);
        Sentence.holds(section, "The latest 8 changes can be undone, the latest one first",
                StateBounds::eightChanges);
        Sentence.holds(section, "The command text, the error position, the failed command, and the line are"
                + " neither undone nor saved", StateBounds::notUndone);
        Sentence.holds(section, "Everything else is", StateBounds::everythingElse);
    }

    private static void line() {
        Sentence.holds("Promise 40", "replacing its previous content", StateBounds::replacedLine);
        Sentence.holds("Promise 40", "The letters of the players 0 to 3 are a to d.", StateBounds::letters);
        Sentence.holds("Promise 40", "An example is \"0 3a 5b* 2 0\".", StateBounds::example);
        Sentence.holds("Promise 40", "`row`: the row, 0 to 4", StateBounds::rows);
        Sentence.holds("Promise 40", "Returns the length of the line.", StateBounds::lengthOfLine);
        Sentence.holds("Promise 40", "Throws `IndexOutOfBoundsException` if there is no such row",
                StateBounds::describeRowIndex);
        Sentence.holds("Promise 41", "The line is initially empty.", StateBounds::emptyLine);
        Sentence.holds("Promise 41", "Throws `IndexOutOfBoundsException` if there is no such index",
                StateBounds::lineAtIndex);
    }

    private static void undo() {
        Sentence.holds("Promise 44", "Undoes the latest change that has not been undone.",
                StateBounds::latestChange);
        Sentence.holds("Promise 44", "Returns the number of changes that can still be undone.",
                StateBounds::changesLeft);
        Sentence.holds("Promise 44", "Throws `IllegalStateException` if there is no change to undo",
                StateBounds::undoState);
    }

    private static void snapshot() {
        Sentence.holds("Promise 45", "Saves everything that changes can change as the snapshot, replacing an"
                + " earlier snapshot.", StateBounds::laterSnapshot);
        Sentence.holds("Promise 45", "Returns the number of stones on the hill.", StateBounds::savedStones);
        Sentence.holds("Promise 46", "Restores the snapshot, which is kept.", StateBounds::keptSnapshot);
        Sentence.holds("Promise 46", "After the call no change can be undone.", StateBounds::noUndoAfterwards);
        Sentence.holds("Promise 46", "Returns the number of stones on the hill.", StateBounds::restoredStones);
        Sentence.holds("Promise 46", "Throws `IllegalStateException` if there is no snapshot",
                StateBounds::restoreState);
    }

    private static void isChange(String call, Consumer<HillContest> change) {
        HillContest x = Hills.withPlayers(60, 60);
        x.drop(0, 0, 3);
        String before = Hills.everything(x);
        change.accept(x);
        Check.same(call + ": undo leaves as many as before", x.undo(), 3);
        Check.same(call + ": undone", Hills.everything(x), before);
    }

    private static void isNoChange(String call, Consumer<HillContest> asking) {
        HillContest x = Hills.withPlayers(60, 60);
        x.drop(0, 0, 3);
        asking.accept(x);
        Check.same(call + ": undo takes the drop", x.undo() + " " + x.stonesOnHill(), "2 0");
    }

    private static void kinds() {
        isChange("addPlayer", x -> x.addPlayer(1));
        isChange("drop", x -> x.drop(1, 24, 9));
        isChange("pile", x -> x.pile(24, 9));
        isChange("take", x -> x.take(0, 0));
        isChange("skip", HillContest::skip);
        isChange("setSlope", x -> x.setSlope(2));
        isChange("setBorder", x -> x.setBorder(true));
        isChange("run", x -> Hills.runText(x, "open"));
        isNoChange("a look", Look::atOnce);
        isNoChange("append", x -> x.append('s'));
        isNoChange("save", HillContest::save);
        isNoChange("describeRow", x -> x.describeRow(0));
        isNoChange("topplesIf", x -> x.topplesIf(0, 9));
        isNoChange("isConsistent", HillContest::isConsistent);
        isNoChange("a pile that is refused", x -> Look.answer(() -> x.pile(0, 10)));
        isNoChange("a run that is refused", x -> Look.answer(() -> Hills.runText(x, "open;")));
        isNoChange("a run that fails", x -> Look.answer(() -> Hills.runText(x, "open;slope 9")));
        isNoChange("an undo", x -> {
            x.pile(4, 1);
            x.undo();
        });
    }

    private static void withoutEffect() {
        isChange("skip of nobody who rests", HillContest::skip);
        isChange("the same slope", x -> x.setSlope(3));
        isChange("the same border", x -> x.setBorder(false));
        isChange("run of the same", x -> Hills.runText(x, "skip;slope 3;close"));
        HillContest x = new HillContest();
        x.skip();
        x.setSlope(3);
        x.setBorder(false);
        Hills.runText(x, "skip");
        for (int left = 3; left >= 0; left--) {
            Check.same("undo", x.undo(), left);
        }
    }

    private static void severalCommands() {
        isChange("run of one command", x -> Hills.runText(x, "pile 12 9"));
        isChange("run of two commands", x -> Hills.runText(x, "pile 12 9;pile 24 9"));
        isChange("run of twelve", x -> Hills.runText(x, "skip;open;".repeat(5) + "skip;open"));
        HillContest x = new HillContest();
        for (int i = 0; i < 8; i++) {
            Hills.runText(x, "pile 0 1;pile 24 1");
        }
        Check.same("eight runs of two", x.undo(), 7);
        Check.same("of two", x.stonesOnHill(), 14);
    }

    /** The n-th change adds n stones: so the number of stones tells which changes stand. */
    private static HillContest piled(int changes) {
        HillContest x = new HillContest();
        for (int n = 1; n <= changes; n++) {
            x.pile(6, 1);
            x.undo();
            Hills.runText(x, "pile 0 " + Math.min(n, 9) + (n > 9 ? ";pile 24 " + (n - 9) : ""));
        }
        return x;
    }

    private static int stonesOf(int changes) {
        return changes * (changes + 1) / 2;
    }

    private static void eightChanges() {
        for (int changes : new int[] {7, 8, 9, 16, 17}) {
            HillContest x = piled(changes);
            int most = Math.min(changes, 8);
            for (int undone = 1; undone <= most; undone++) {
                Check.same(changes + " changes: undo", x.undo(), most - undone);
                Check.same(changes + " changes: stones", x.stonesOnHill(), stonesOf(changes - undone));
            }
            Check.fails(changes + " changes: one more", STATE, x::undo);
            Check.same(changes + " changes: stones", x.stonesOnHill(), stonesOf(changes - most));
        }
    }

    private static void notUndone() {
        HillContest x = new HillContest();
        x.skip();
        x.skip();
        x.save();
        Look.answer(() -> Hills.runText(x, "slop"));
        Look.answer(() -> Hills.runText(x, "skip;slope 9"));
        Hills.write(x, "skip;op");
        x.pile(0, 1);
        x.describeRow(0);
        for (int turn = 0; turn < 4; turn++) {
            Check.same("error position, failed command", Look.errors(x), "4 1");
            Check.same("line", Look.line(x), "1* 0 0 0 0");
            if (turn < 2) {
                x.undo();
            } else {
                x.restore();
            }
        }
        Check.same("command text", Hills.write(x, "en"), 9);
        Check.same("run of the command text", x.run(), 2);
        x.undo();
        Check.same("a run's text does not come back", x.append('s'), 1);
    }

    /** A contest in which everything has been changed since a contest in which nothing was. */
    private static void everythingElse() {
        HillContest x = new HillContest();
        String before = Hills.everything(x);
        x.save();
        Hills.runText(x, "player 9;player 9;slope 4;open;drop 0 0 9;take 0 0;pile 12 9");
        String after = Hills.everything(x);
        Check.yes("rest", x.rest(0) > 0);
        Check.yes("totals", x.toppleTotal() > 0 && x.lostTotal() > 0 && x.takenTotal() > 0);
        Check.same("undo", x.undo(), 0);
        Check.same("everything undone", Hills.everything(x), before);
        Hills.runText(x, "player 9;player 9;slope 4;open;drop 0 0 9;take 0 0;pile 12 9");
        Check.same("everything again", Hills.everything(x), after);
        Check.same("restore", x.restore(), 0);
        Check.same("everything restored", Hills.everything(x), before);
    }

    private static void replacedLine() {
        HillContest x = Hills.withPlayers(60);
        x.drop(0, 0, 2);
        Check.same("the longer", x.describeRow(0) + Look.line(x), "112a* 0 0 0 0");
        Check.same("the shorter", x.describeRow(4) + Look.line(x), "90 0 0 0 0");
        Check.fails("nothing is left of the longer", INDEX, () -> x.lineAt(9));
        Check.same("the longer again", x.describeRow(0) + Look.line(x), "112a* 0 0 0 0");
    }

    private static void letters() {
        HillContest x = Hills.withPlayers(9, 9, 9, 9);
        for (int player = 0; player < 4; player++) {
            x.drop(player, player, 1);
        }
        x.pile(4, 1);
        Check.same("the players 0 to 3 and nobody", Hills.row(x, 0), "1a 1b 1c 1d 1");
        x.drop(3, 3, 1);
        Check.same("a peak of the last", Hills.row(x, 0), "1a 1b 1c 2d* 1");
    }

    private static void example() {
        HillContest x = Hills.withPlayers(60, 60);
        x.setSlope(6);
        x.drop(0, 11, 3);
        x.drop(1, 12, 5);
        x.pile(13, 2);
        Check.same("the row", Hills.row(x, 2), "0 3a 5b* 2 0");
    }

    private static void rows() {
        Bounds.between("describeRow", 0, 4, INDEX, Pasts::fresh, HillContest::describeRow);
        HillContest x = new HillContest();
        Hills.pileTo(x, 0, 1, 4, 2, 20, 1, 24, 2);
        Check.same("the first and the last", Hills.row(x, 0) + "/" + Hills.row(x, 4), "1* 0 0 0 2*/1* 0 0 0 2*");
        Check.same("the rows between", Hills.row(x, 1) + "/" + Hills.row(x, 3), "0 0 0 0 0/0 0 0 0 0");
    }

    private static void lengthOfLine() {
        HillContest x = Pasts.busy();
        for (int row = 0; row < 5; row++) {
            Check.same("the shortest and others", x.describeRow(row), Look.line(x).length());
        }
        HillContest full = Pasts.full();
        Check.same("heights of 10 and more", full.describeRow(0), 15);
        Check.same("heights of 10 and more", Look.line(full), "12 11 13 14* 13");
        HillContest nine = new HillContest();
        for (int i = 0; i < 25; i++) {
            nine.pile(i, 9);
        }
        Check.same("225 stones", nine.stonesOnHill(), 225);
        Check.same("heights around 9 and 10", Hills.row(nine, 2).replace("*", ""), heightsOfRow(nine, 2));
    }

    private static String heightsOfRow(HillContest x, int row) {
        StringBuilder text = new StringBuilder().append(x.height(5 * row));
        for (int column = 1; column < 5; column++) {
            text.append(' ').append(x.height(5 * row + column));
        }
        return text.toString();
    }

    private static void describeRowIndex() {
        Bounds.between("describeRow", 0, 4, INDEX, Pasts::busy, HillContest::describeRow);
        Bounds.between("describeRow", 0, 4, INDEX, Pasts::full, HillContest::describeRow);
        for (int row : new int[] {-2, 6, 20, 24, 25}) {
            Bounds.refused("describeRow", row, INDEX, Pasts::busy, HillContest::describeRow);
        }
    }

    private static void emptyLine() {
        for (int index : new int[] {-1, 0, 1, Integer.MIN_VALUE, Integer.MAX_VALUE}) {
            Bounds.refused("lineAt", index, INDEX, Pasts::fresh, HillContest::lineAt);
            Bounds.refused("lineAt", index, INDEX, Pasts::full, HillContest::lineAt);
        }
        HillContest x = new HillContest();
        x.describeRow(0);
        Check.same("written", x.lineAt(0), '0');
    }

    private static void lineAtIndex() {
        Check.same("the line of busy()", Look.line(Pasts.busy()), "0 0 2c* 0 2a");
        Bounds.between("lineAt", 0, 11, INDEX, Pasts::busy, HillContest::lineAt);
        HillContest x = Pasts.busy();
        Check.same("the first and the last", x.lineAt(0) + "" + x.lineAt(11), "0a");
        Check.same("between", x.lineAt(4) + "" + x.lineAt(6), "2*");
    }

    private static void isConsistent() {
        Check.yes("a new object", new HillContest().isConsistent());
        Check.yes("a full hill", Pasts.full().isConsistent());
        Check.yes("stones lost and taken", Pasts.busy().isConsistent());
        HillContest x = Pasts.busy();
        x.take(0, 24);
        Check.yes("stones taken", x.isConsistent());
        x.undo();
        Check.yes("undone", x.isConsistent());
        x.restore();
        Check.yes("restored", x.isConsistent());
        for (int slope = 2; slope <= 6; slope++) {
            HillContest full = Pasts.full();
            full.setSlope(slope);
            full.setBorder(true);
            Check.yes("at the slope " + slope, full.isConsistent());
        }
    }

    private static void latestChange() {
        HillContest x = new HillContest();
        x.pile(0, 1);
        x.pile(4, 1);
        x.pile(20, 1);
        x.undo();
        Check.same("the third", x.height(0) + " " + x.height(4) + " " + x.height(20), "1 1 0");
        x.undo();
        Check.same("the second", x.height(0) + " " + x.height(4) + " " + x.height(20), "1 0 0");
        x.pile(24, 1);
        x.undo();
        Check.same("one after an undo", x.height(0) + " " + x.height(24), "1 0");
        x.undo();
        Check.same("the first", x.stonesOnHill(), 0);
    }

    private static void changesLeft() {
        HillContest x = piled(9);
        Check.same("of eight", x.undo(), 7);
        x.pile(24, 1);
        Check.same("of eight again", x.undo(), 7);
        Check.same("of seven", x.undo(), 6);
        x.pile(24, 1);
        x.pile(24, 1);
        x.pile(24, 1);
        Check.same("of six and three: no more than eight", x.undo(), 7);
        HillContest y = new HillContest();
        y.skip();
        Check.same("of one", y.undo(), 0);
    }

    private static void undoState() {
        Twins.refuse("a new object", STATE, Pasts::fresh, HillContest::undo);
        Twins.refuse("one undone", STATE, StateBounds::allUndone, HillContest::undo);
        HillContest x = allUndone();
        x.skip();
        Check.same("a change to undo", x.undo(), 0);
        Check.fails("none", STATE, x::undo);
    }

    /** More changes than can be undone, and all undone that can be. */
    private static HillContest allUndone() {
        HillContest x = Pasts.busy();
        for (int i = 0; i < 8; i++) {
            x.undo();
        }
        return x;
    }

    private static void laterSnapshot() {
        HillContest x = new HillContest();
        x.save();
        x.pile(0, 1);
        x.save();
        x.pile(0, 1);
        Check.same("the later one", x.restore(), 1);
        x.pile(0, 1);
        x.save();
        x.undo();
        Check.same("an undo does not touch it", x.stonesOnHill() + " " + x.restore(), "1 2");
    }

    private static void savedStones() {
        Check.same("none", new HillContest().save(), 0);
        Check.same("the most", Pasts.full().save(), 300);
        HillContest x = Pasts.busy();
        Check.same("some", x.save(), x.stonesOnHill());
    }

    private static void keptSnapshot() {
        HillContest x = Hills.withPlayers(60);
        x.drop(0, 0, 9);
        x.save();
        String saved = Hills.everything(x);
        for (int turn = 0; turn < 3; turn++) {
            x.pile(24, 9);
            x.setSlope(2);
            x.skip();
            x.addPlayer(1);
            Check.same("restore", x.restore(), 9);
            Check.same("everything", Hills.everything(x), saved);
        }
        Check.same("twice", x.restore(), 9);
    }

    private static void noUndoAfterwards() {
        for (int changes : new int[] {0, 1, 8, 9}) {
            HillContest x = piled(changes);
            x.save();
            x.restore();
            Check.fails(changes + " changes: undo", STATE, x::undo);
            x.pile(24, 1);
            Check.same(changes + " changes: the one that follows", x.undo(), 0);
            Check.same(changes + " changes: stones", x.stonesOnHill(), stonesOf(changes));
        }
        HillContest y = piled(3);
        y.save();
        Check.same("save leaves what can be undone", y.undo(), 2);
    }

    private static void restoredStones() {
        HillContest x = new HillContest();
        x.save();
        x.pile(0, 1);
        Check.same("none", x.restore(), 0);
        HillContest full = Pasts.full();
        full.save();
        full.setBorder(true);
        Check.yes("stones are lost", full.stonesOnHill() < 300);
        Check.same("the most", full.restore(), 300);
    }

    private static void restoreState() {
        Twins.refuse("a new object", STATE, Pasts::fresh, HillContest::restore);
        Twins.refuse("no snapshot", STATE, Pasts::full, HillContest::restore);
        HillContest x = new HillContest();
        Check.fails("no snapshot", STATE, x::restore);
        x.save();
        Check.same("an empty hill is one too", x.restore(), 0);
    }
}
