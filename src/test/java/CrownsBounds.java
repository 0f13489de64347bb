import java.util.NoSuchElementException;

/** Promises 23 to 35 and 42, sentence by sentence: crowns, totals, and their mean. */
final class CrownsBounds {
    private static final Class<ArithmeticException> ARITHMETIC = ArithmeticException.class;
    private static final Class<NoSuchElementException> ELEMENT = NoSuchElementException.class;
    private static final String NO_PLAYER = "Throws `IndexOutOfBoundsException` if there is no such player";
    private static final String RANK = "`rank`: the rank, from 0";
    private static final String NO_RANK = "Throws `NoSuchElementException` if there is no such rank";

    private CrownsBounds() {}

    static void all() {
        peaks();
        players();
        totals();
        Sentence.holds("Promise 42", "both converted to double", CrownsBounds::meanAvalanche);
        Sentence.holds("Promise 42", "Throws `ArithmeticException` if there was no avalanche",
                CrownsBounds::meanArithmetic);
    }

    private static void peaks() {
        Sentence.holds("Promise 23", "`cell`: the cell, 0 to 24", CrownsBounds::isPeakCell);
        Sentence.holds("Promise 23", "Throws `IndexOutOfBoundsException` if there is no such cell",
                CrownsBounds::isPeakIndex);
        Sentence.holds("Promise 24", "Returns the number of peaks.", CrownsBounds::peakCount);
        Sentence.holds("Promise 25", "the higher peak first; of peaks with the same height the one with"
                + " the lower number first", CrownsBounds::peaksInOrder);
        Sentence.holds("Promise 25", RANK, CrownsBounds::firstAndLastPeak);
        Sentence.holds("Promise 25", NO_RANK, CrownsBounds::peakElement);
    }

    private static void players() {
        Sentence.holds("Promise 26", "Returns the number of crowns.", CrownsBounds::crowns);
        Sentence.holds("Promise 26", NO_PLAYER, () -> noPlayer("crowns", HillContest::crowns));
        Sentence.holds("Promise 27", "Returns the score.", CrownsBounds::score);
        Sentence.holds("Promise 27", NO_PLAYER, () -> noPlayer("score", HillContest::score));
        Sentence.holds("Promise 28", "the player with the greater score first; of players with the same"
                + " score the one with more stones in the hand first; then the one with the lower number"
                + " first", CrownsBounds::playersInOrder);
        Sentence.holds("Promise 28", RANK, CrownsBounds::firstAndLastPlayer);
        Sentence.holds("Promise 28", NO_RANK, CrownsBounds::playerElement);
        Sentence.holds("Promise 29", "Returns the share.", CrownsBounds::crownShare);
        Sentence.holds("Promise 29", NO_PLAYER, CrownsBounds::crownShareIndex);
        Sentence.holds("Promise 29", "Throws `ArithmeticException` if there are no peaks",
                CrownsBounds::crownShareArithmetic);
    }

    private static void totals() {
        Sentence.holds("Promise 30", "Returns the number of topples so far.", CrownsBounds::toppleTotal);
        Sentence.holds("Promise 31", "Returns the number of avalanches so far.",
                CrownsBounds::avalancheCount);
        Sentence.holds("Promise 32", "Returns the number of topples, 0 without avalanches.",
                CrownsBounds::largestAvalanche);
        Sentence.holds("Promise 33", "Returns the number of stones dropped and piled so far.",
                CrownsBounds::placedTotal);
        Sentence.holds("Promise 34", "Returns the number of stones that have fallen to the outside so far.",
                CrownsBounds::lostTotal);
        Sentence.holds("Promise 35", "Returns the number of stones taken so far.", CrownsBounds::takenTotal);
    }

    private static void noPlayer(String call, Bounds.Call asking) {
        Bounds.noPlayers(call, asking);
        Bounds.players(call, 3, Pasts::busy, asking);
        Bounds.players(call, 4, Pasts::full, asking);
    }

    private static void isPeakCell() {
        HillContest x = new HillContest();
        x.pile(0, 1);
        Check.same("the first, not the last", x.isPeak(0) + " " + x.isPeak(24), "true false");
        x.pile(24, 1);
        Check.same("the last", x.isPeak(24), true);
        Bounds.cells("isPeak", Pasts::fresh, HillContest::isPeak);
    }

    private static void isPeakIndex() {
        Bounds.cells("isPeak", Pasts::busy, HillContest::isPeak);
        Bounds.cells("isPeak", Pasts::full, HillContest::isPeak);
    }

    /** As many peaks as a hill can have: no two of the cells are neighbours. */
    private static HillContest thirteenPeaks() {
        HillContest x = new HillContest();
        for (int cell = 0; cell < 25; cell += 2) {
            x.pile(cell, 1);
        }
        return x;
    }

    private static HillContest plateau() {
        HillContest x = Hills.withPlayers(60, 60);
        for (int cell = 0; cell < 25; cell++) {
            x.drop(cell % 2, cell, 1);
        }
        return x;
    }

    private static void peakCount() {
        Check.same("an empty hill", new HillContest().peakCount(), 0);
        Check.same("the most", thirteenPeaks().peakCount(), 13);
        HillContest x = plateau();
        Check.same("stones everywhere", x.peakCount(), 0);
        x.pile(24, 1);
        Check.same("the last cell is higher", x.peakCount(), 1);
        x.pile(0, 1);
        Check.same("and the first", x.peakCount(), 2);
    }

    private static void peaksInOrder() {
        HillContest x = new HillContest();
        Hills.pileTo(x, 24, 1, 12, 1);
        Check.same("of the same height", x.peakAt(0) + " " + x.peakAt(1), "12 24");
        x.pile(24, 1);
        Check.same("one higher", x.peakAt(0) + " " + x.peakAt(1), "24 12");
        x.pile(12, 1);
        Check.same("of the same height again", x.peakAt(0) + " " + x.peakAt(1), "12 24");
        x.pile(0, 1);
        Check.same("one lower", x.peakAt(0) + " " + x.peakAt(1) + " " + x.peakAt(2), "12 24 0");
    }

    private static void firstAndLastPeak() {
        HillContest x = thirteenPeaks();
        for (int rank = 0; rank < 13; rank++) {
            Check.same("peakAt(" + rank + ")", x.peakAt(rank), 2 * rank);
        }
        Bounds.between("peakAt", 0, 12, ELEMENT, CrownsBounds::thirteenPeaks, HillContest::peakAt);
    }

    private static void peakElement() {
        Bounds.refused("peakAt", 0, ELEMENT, Pasts::fresh, HillContest::peakAt);
        Bounds.refused("peakAt", 0, ELEMENT, CrownsBounds::plateau, HillContest::peakAt);
        Bounds.between("peakAt", 0, 2, ELEMENT, Pasts::busy, HillContest::peakAt);
        Bounds.between("peakAt", 0, 3, ELEMENT, Pasts::full, HillContest::peakAt);
    }

    private static void crowns() {
        HillContest x = Hills.withPlayers(60, 60);
        Check.same("none", x.crowns(0) + " " + x.crowns(1), "0 0");
        x.drop(0, 12, 1);
        Check.same("one", x.crowns(0) + " " + x.crowns(1), "1 0");
        x.drop(1, 13, 1);
        Check.same("an equal neighbour", x.crowns(0) + " " + x.crowns(1), "0 0");
        x.drop(1, 13, 1);
        Check.same("a higher neighbour", x.crowns(0) + " " + x.crowns(1), "0 1");
        x.pile(13, 1);
        Check.same("nobody's peak", x.crowns(0) + " " + x.crowns(1), "0 0");
        HillContest all = Hills.withPlayers(60);
        for (int cell = 0; cell < 25; cell += 2) {
            all.drop(0, cell, 1);
        }
        Check.same("the most", all.crowns(0), 13);
    }

    private static void score() {
        HillContest x = Hills.withPlayers(60, 60);
        Check.same("none", x.score(0) + " " + x.score(1), "0 0");
        x.drop(0, 12, 2);
        x.drop(0, 0, 1);
        Check.same("the sum of two", x.score(0) + " " + x.score(1), "3 0");
        x.drop(0, 5, 1);
        Check.same("what is no peak does not count", x.score(0), 2);
        x.drop(1, 7, 2);
        Check.same("an equal neighbour", x.score(0) + " " + x.score(1), "0 0");
        HillContest y = Hills.withPlayers(60);
        for (int cell = 0; cell < 25; cell += 2) {
            y.drop(0, cell, 2);
        }
        Check.same("13 peaks of 2", y.score(0), 26);
    }

    private static String ranks(HillContest x) {
        StringBuilder text = new StringBuilder();
        for (int rank = 0; rank < x.playerCount(); rank++) {
            text.append(x.playerAtRank(rank));
        }
        return text.toString();
    }

    private static void playersInOrder() {
        HillContest x = Hills.withPlayers(9, 9, 9);
        Check.same("all the same", ranks(x), "012");
        x.drop(2, 0, 1);
        Check.same("a score of 1, a smaller hand", ranks(x), "201");
        x.drop(1, 4, 1);
        Check.same("the same score, the same hand", ranks(x), "120");
        x.drop(1, 20, 1);
        x.take(1, 20);
        x.drop(2, 1, 1);
        x.drop(2, 2, 1);
        Check.same("no score, a smaller hand", ranks(x), "102");
        x.take(2, 1);
        Check.same("the greater score, a smaller hand", ranks(x), "210");
        x.drop(1, 24, 1);
        Check.same("the same score, a hand of the same", ranks(x), "120");
        x.drop(1, 13, 1);
        x.drop(1, 14, 1);
        Check.same("the same score, a smaller hand", ranks(x), "210");
    }

    private static void firstAndLastPlayer() {
        HillContest x = Hills.withPlayers(1, 2, 3, 4);
        Check.same("the first and the last", x.playerAtRank(0) + " " + x.playerAtRank(3), "3 0");
        Bounds.between("playerAtRank", 0, 3, ELEMENT, Pasts::full, HillContest::playerAtRank);
    }

    private static void playerElement() {
        Bounds.refused("playerAtRank", 0, ELEMENT, Pasts::fresh, HillContest::playerAtRank);
        Bounds.refused("playerAtRank", -1, ELEMENT, Pasts::fresh, HillContest::playerAtRank);
        Bounds.between("playerAtRank", 0, 0, ELEMENT, () -> Hills.withPlayers(1), HillContest::playerAtRank);
        Bounds.between("playerAtRank", 0, 2, ELEMENT, Pasts::busy, HillContest::playerAtRank);
    }

    private static void crownShare() {
        HillContest x = Hills.withPlayers(60, 60);
        x.drop(0, 0, 1);
        Check.same("all and none", x.crownShare(0) + " " + x.crownShare(1), "1.0 0.0");
        x.drop(1, 12, 1);
        x.pile(24, 1);
        Check.same("one of three", x.crownShare(0), (float) 1 / (float) 3);
        HillContest y = thirteenPeaks();
        y.addPlayer(60);
        Check.same("none of 13", y.crownShare(0), 0.0f);
        y.drop(0, 24, 1);
        Check.same("one of 13", y.crownShare(0), (float) 1 / (float) 13);
    }

    private static void crownShareIndex() {
        Bounds.noPlayers("crownShare", HillContest::crownShare);
        Bounds.players("crownShare", 3, Pasts::busy, HillContest::crownShare);
        Bounds.players("crownShare", 4, Pasts::full, HillContest::crownShare);
    }

    private static void crownShareArithmetic() {
        Twins.refuse("an empty hill", ARITHMETIC, () -> Hills.withPlayers(60), x -> x.crownShare(0));
        Twins.refuse("a plateau", ARITHMETIC, CrownsBounds::plateau, x -> x.crownShare(1));
        HillContest x = plateau();
        x.pile(0, 1);
        Check.same("a peak of nobody", x.crownShare(0) + " " + x.crownShare(1), "0.0 0.0");
    }

    private static void toppleTotal() {
        HillContest x = Hills.withPlayers(60);
        Check.same("none", x.toppleTotal(), 0);
        x.drop(0, 12, 2);
        Check.same("a drop without topples", x.toppleTotal(), 0);
        x.drop(0, 12, 1);
        Check.same("a drop with one", x.toppleTotal(), 1);
        x.setSlope(2);
        Check.same("a slope with one", x.toppleTotal(), 2);
        x.pile(0, 2);
        Check.same("a pile with one", x.toppleTotal(), 3);
        x.pile(24, 1);
        Check.same("a pile without", x.toppleTotal(), 3);
    }

    private static void avalancheCount() {
        HillContest x = Hills.withPlayers(60);
        Check.same("none", x.avalancheCount(), 0);
        x.drop(0, 12, 2);
        Check.same("no topple", x.avalancheCount(), 0);
        x.drop(0, 12, 1);
        Check.same("one topple", x.avalancheCount(), 1);
        x.pile(24, 9);
        Check.same("many topples", x.avalancheCount(), 2);
        x.setSlope(6);
        x.setBorder(true);
        x.take(0, 12);
        Check.same("no topple", x.avalancheCount(), 2);
    }

    private static void largestAvalanche() {
        HillContest x = new HillContest();
        Check.same("without avalanches", x.largestAvalanche(), 0);
        x.pile(12, 2);
        Check.same("without avalanches", x.largestAvalanche(), 0);
        x.pile(12, 1);
        Check.same("one topple", x.largestAvalanche(), 1);
        x.pile(2, 3);
        Check.same("another with one", x.largestAvalanche(), 1);
        x.pile(24, 4);
        Check.same("a larger one", x.largestAvalanche(), 2);
        x.pile(20, 3);
        Check.same("a smaller one", x.largestAvalanche(), 2);
        x.undo();
        x.undo();
        Check.same("undone", x.largestAvalanche(), 1);
    }

    private static void placedTotal() {
        HillContest x = Hills.withPlayers(60);
        Check.same("none", x.placedTotal(), 0);
        x.drop(0, 12, 1);
        Check.same("1 dropped", x.placedTotal(), 1);
        x.pile(0, 9);
        Check.same("9 piled", x.placedTotal(), 10);
        x.take(0, 12);
        Check.same("1 taken", x.placedTotal(), 10);
        Check.same("of 300", Pasts.full().placedTotal(), 300);
    }

    private static void lostTotal() {
        HillContest x = new HillContest();
        x.pile(0, 9);
        Check.same("none", x.lostTotal(), 0);
        HillContest y = new HillContest();
        y.setBorder(true);
        Hills.pileTo(y, 1, 1, 5, 1, 0, 2);
        Check.same("none", y.lostTotal(), 0);
        y.pile(0, 1);
        Check.same("one", y.lostTotal(), 1);
        y.pile(0, 1);
        Check.same("two", y.lostTotal(), 2);
        y.setBorder(false);
        y.pile(0, 9);
        Check.same("no more", y.lostTotal(), 2);
    }

    private static void takenTotal() {
        HillContest x = Hills.withPlayers(60, 60);
        Check.same("none", x.takenTotal(), 0);
        x.drop(0, 12, 2);
        Check.same("none", x.takenTotal(), 0);
        x.take(0, 12);
        Check.same("one", x.takenTotal(), 1);
        Check.fails("another's", UnsupportedOperationException.class, () -> x.take(1, 12));
        Check.same("one", x.takenTotal(), 1);
        x.take(0, 12);
        Check.same("two", x.takenTotal(), 2);
    }

    private static void meanAvalanche() {
        HillContest x = new HillContest();
        x.pile(12, 3);
        Check.same("one topple", x.meanAvalanche(), 1.0);
        x.pile(24, 4);
        Check.same("3 of 2", x.meanAvalanche(), 1.5);
        x.pile(0, 3);
        Check.same("4 of 3", x.meanAvalanche(), (double) 4 / (double) 3);
    }

    private static void meanArithmetic() {
        Twins.refuse("a new object", ARITHMETIC, Pasts::fresh, HillContest::meanAvalanche);
        Twins.refuse("no topple", ARITHMETIC, CrownsBounds::plateau, HillContest::meanAvalanche);
        HillContest x = new HillContest();
        x.pile(12, 3);
        Check.same("one topple", x.meanAvalanche(), 1.0);
        x.undo();
        Check.fails("undone", ARITHMETIC, x::meanAvalanche);
    }
}
