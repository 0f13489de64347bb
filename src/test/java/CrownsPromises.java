import java.util.NoSuchElementException;

/** The promises 23 to 35: crowns and totals. */
final class CrownsPromises {
    private static final Class<IndexOutOfBoundsException> INDEX = IndexOutOfBoundsException.class;
    private static final Class<NoSuchElementException> ELEMENT = NoSuchElementException.class;
    private static final Class<ArithmeticException> ARITHMETIC = ArithmeticException.class;
    private static final String TOPPLES = "Returns the number of topples.";
    private static final String STONES = "Returns the number of stones.";
    private static final int[] NO_PLAYERS = {-1, 3, Integer.MIN_VALUE, Integer.MAX_VALUE};

    private CrownsPromises() {}

    static void all() {
        peaks();
        players();
        totals();
    }

    private static void peaks() {
        Promise.holds(23, "isPeak", "Returns whether a cell is a peak.", "Returns whether it is a peak.",
                CrownsPromises::isPeak);
        Promise.holds(24, "peakCount", "Returns the number of peaks.", "Returns the number of peaks.",
                CrownsPromises::peakCount);
        Promise.holds(25, "peakAt", "Returns the peak at a rank: the higher peak first; of peaks with the same"
                + " height the one with the lower number first.", "Returns the cell.", CrownsPromises::peakAt);
    }

    private static void players() {
        Promise.holds(26, "crowns", "Returns the number of crowns of a player: the peaks that belong to the"
                + " player.", "Returns the number of crowns.", CrownsPromises::crowns);
        Promise.holds(27, "score", "Returns the score of a player: the sum of the heights of the peaks that"
                + " belong to the player.", "Returns the score.", CrownsPromises::score);
        Promise.holds(28, "playerAtRank", "Returns the player at a rank: the player with the greater score"
                + " first; of players with the same score the one with more stones in the hand first; then the"
                + " one with the lower number first.", "Returns the player.", CrownsPromises::playerAtRank);
        Promise.holds(29, "crownShare", "Returns the share of all peaks that belong to a player, both numbers"
                + " converted to float.", "Returns the share.", CrownsPromises::crownShare);
    }

    private static void totals() {
        Promise.holds(30, "toppleTotal", "Returns the number of topples so far.", TOPPLES,
                CrownsPromises::toppleTotal);
        Promise.holds(31, "avalancheCount", "Returns the number of avalanches so far.",
                "Returns the number of avalanches.", CrownsPromises::avalancheCount);
        Promise.holds(32, "largestAvalanche", "Returns the greatest number of topples of an avalanche so far.",
                "Returns the number of topples, 0 without avalanches.", CrownsPromises::largestAvalanche);
        Promise.holds(33, "placedTotal", "Returns the number of stones dropped and piled so far.", STONES,
                CrownsPromises::placedTotal);
        Promise.holds(34, "lostTotal", "Returns the number of stones that have fallen to the outside so far.",
                STONES, CrownsPromises::lostTotal);
        Promise.holds(35, "takenTotal", "Returns the number of stones taken so far.", STONES,
                CrownsPromises::takenTotal);
    }

    /** The peaks 0 (2, player 0), 24 (2, player 1), 4 (1, player 0) and 12 (2, nobody). */
    private static HillContest crowned() {
        HillContest x = Hills.withPlayers(60, 60, 60);
        x.drop(0, 4, 1);
        x.drop(1, 24, 2);
        x.pile(12, 2);
        x.drop(0, 0, 2);
        x.drop(2, 1, 1);
        return x;
    }

    private static void isPeak() {
        HillContest x = crowned();
        for (int cell = 0; cell < 25; cell++) {
            boolean due = cell == 0 || cell == 4 || cell == 12 || cell == 24;
            Check.same("isPeak(" + cell + ")", x.isPeak(cell), due);
        }
        x.pile(5, 2);
        Check.no("as high as its neighbour", x.isPeak(0));
        for (int cell : new int[] {-1, 25, Integer.MIN_VALUE, Integer.MAX_VALUE}) {
            Check.fails("isPeak(" + cell + ")", INDEX, () -> x.isPeak(cell));
        }
    }

    private static void peakCount() {
        Check.same("an empty hill", new HillContest().peakCount(), 0);
        HillContest x = crowned();
        Check.same("peakCount", x.peakCount(), 4);
        x.pile(13, 2);
        Check.same("a neighbour as high", x.peakCount(), 3);
        x.pile(20, 1);
        Check.same("one more", x.peakCount(), 4);
    }

    private static void peakAt() {
        HillContest x = crowned();
        Check.same("by the height, then the number", x.peakAt(0) + " " + x.peakAt(1) + " " + x.peakAt(2) + " "
                + x.peakAt(3), "0 12 24 4");
        for (int rank : new int[] {-1, 4, Integer.MIN_VALUE, Integer.MAX_VALUE}) {
            Check.fails("peakAt(" + rank + ")", ELEMENT, () -> x.peakAt(rank));
        }
        Check.fails("no peaks", ELEMENT, () -> new HillContest().peakAt(0));
    }

    private static void crowns() {
        HillContest x = crowned();
        Check.same("crowns", x.crowns(0) + " " + x.crowns(1) + " " + x.crowns(2), "2 1 0");
        x.drop(2, 4, 1);
        Check.same("one of another now", x.crowns(0) + " " + x.crowns(1) + " " + x.crowns(2), "1 1 1");
        for (int player : NO_PLAYERS) {
            Check.fails("crowns(" + player + ")", INDEX, () -> x.crowns(player));
        }
    }

    private static void score() {
        HillContest x = crowned();
        Check.same("scores", x.score(0) + " " + x.score(1) + " " + x.score(2), "3 2 0");
        x.drop(2, 4, 1);
        Check.same("one of another now", x.score(0) + " " + x.score(1) + " " + x.score(2), "2 2 2");
        for (int player : NO_PLAYERS) {
            Check.fails("score(" + player + ")", INDEX, () -> x.score(player));
        }
    }

    private static String ranks(HillContest x) {
        return x.playerAtRank(0) + " " + x.playerAtRank(1) + " " + x.playerAtRank(2);
    }

    private static void playerAtRank() {
        HillContest x = crowned();
        Check.same("by the score", ranks(x), "0 1 2");
        x.drop(2, 4, 1);
        Check.same("hands", x.hand(0) + " " + x.hand(1) + " " + x.hand(2), "57 58 58");
        Check.same("by the hand, then the number", ranks(x), "1 2 0");
        for (int rank : NO_PLAYERS) {
            Check.fails("playerAtRank(" + rank + ")", ELEMENT, () -> x.playerAtRank(rank));
        }
        Check.fails("no players", ELEMENT, () -> new HillContest().playerAtRank(0));
    }

    private static void crownShare() {
        HillContest x = crowned();
        Check.same("of four", x.crownShare(0) + " " + x.crownShare(1) + " " + x.crownShare(2), "0.5 0.25 0.0");
        x.pile(13, 2);
        Check.same("of three", x.crownShare(0) + " " + x.crownShare(1), 2f / 3f + " " + 1f / 3f);
        for (int player : NO_PLAYERS) {
            Check.fails("crownShare(" + player + ")", INDEX, () -> x.crownShare(player));
        }
        HillContest y = Hills.withPlayers(1);
        Check.fails("no peaks", ARITHMETIC, () -> y.crownShare(0));
        Check.fails("no such player, no peaks", INDEX, () -> y.crownShare(1));
    }

    /** 6 topples of a drop, 1 of a pile, 2 of a border, none of a slope. */
    private static HillContest toppled() {
        HillContest x = Hills.withPlayers(60);
        x.drop(0, 24, 9);
        x.pile(0, 3);
        Check.same("so far", x.toppleTotal() + " " + x.avalancheCount(), "7 2");
        x.setBorder(true);
        x.setSlope(6);
        return x;
    }

    private static void toppleTotal() {
        Check.same("none", new HillContest().toppleTotal(), 0);
        HillContest x = toppled();
        Check.same("toppleTotal", x.toppleTotal(), 9);
        x.topplesIf(12, 9);
        Check.same("a try is none", x.toppleTotal(), 9);
        x.undo();
        x.undo();
        Check.same("two undone", x.toppleTotal(), 7);
    }

    private static void avalancheCount() {
        Check.same("none", new HillContest().avalancheCount(), 0);
        HillContest x = toppled();
        Check.same("avalancheCount", x.avalancheCount(), 3);
        Hills.runText(x, "slope 3;pile 12 4;skip;pile 12 9;close");
        Check.same("two in a run", x.avalancheCount(), 5);
        x.undo();
        Check.same("undone", x.avalancheCount(), 3);
    }

    private static void largestAvalanche() {
        Check.same("none", new HillContest().largestAvalanche(), 0);
        HillContest x = new HillContest();
        x.pile(0, 3);
        Check.same("1", x.largestAvalanche(), 1);
        x.pile(24, 9);
        Check.same("6", x.largestAvalanche(), 6);
        x.pile(4, 3);
        Check.same("still 6", x.largestAvalanche(), 6);
        Check.same("not their sum", x.toppleTotal(), 8);
        x.undo();
        x.undo();
        Check.same("undone", x.largestAvalanche(), 1);
    }

    private static void placedTotal() {
        Check.same("none", new HillContest().placedTotal(), 0);
        HillContest x = toppled();
        Check.same("9 and 3", x.placedTotal(), 12);
        x.take(0, 24);
        Check.same("a take places none", x.placedTotal(), 12);
        Hills.runText(x, "skip;drop 0 12 1;pile 12 1");
        Check.same("a run places two", x.placedTotal(), 14);
    }

    private static void lostTotal() {
        Check.same("none", new HillContest().lostTotal(), 0);
        HillContest x = toppled();
        Check.same("two", x.lostTotal(), 2);
        Check.same("are not on the hill", x.stonesOnHill(), 10);
        x.setSlope(2);
        Check.yes("more", x.lostTotal() > 2);
        Check.same("are not on the hill", x.stonesOnHill(), 12 - x.lostTotal());
    }

    private static void takenTotal() {
        Check.same("none", new HillContest().takenTotal(), 0);
        HillContest x = toppled();
        x.take(0, 24);
        x.take(0, 24);
        Check.same("two", x.takenTotal(), 2);
        Check.same("are in the hand", x.hand(0), 53);
        Hills.runText(x, "take 0 19");
        Check.same("three", x.takenTotal(), 3);
        x.undo();
        Check.same("one undone", x.takenTotal(), 2);
    }
}
