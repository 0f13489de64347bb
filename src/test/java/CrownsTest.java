import java.util.NoSuchElementException;

/** Promises 23 to 29: crowns. */
final class CrownsTest {
    private static final Class<IndexOutOfBoundsException> INDEX = IndexOutOfBoundsException.class;
    private static final Class<NoSuchElementException> ELEMENT = NoSuchElementException.class;
    private static final int[] NO_PLAYERS = {-1, 2, Integer.MIN_VALUE, Integer.MAX_VALUE};

    public static void main(String[] args) {
        isPeak();
        isPeakAtTheBorder();
        peaksInOrder();
        peaksFail();
        crownsAndScore();
        playersFail();
        playerAtRank();
        playerAtRankFails();
        crownShare();
        crownShareFails();
        Check.end();
    }

    private static void isPeak() {
        HillContest x = new HillContest();
        Check.no("P23 an empty hill", x.isPeak(12));
        Check.same("P24 an empty hill", x.peakCount(), 0);
        x.pile(12, 1);
        Check.yes("P23 one stone", x.isPeak(12));
        int[] neighbours = {7, 11, 13, 17};
        for (int cell : neighbours) {
            x.pile(cell, 1);
            Check.no("P23 beside an equal one", x.isPeak(12));
            Check.no("P23 nor that one", x.isPeak(cell));
            Check.same("P24 no peak", x.peakCount(), 0);
            x.undo();
        }
        x.pile(6, 2);
        Check.yes("P23 a corner is no neighbour", x.isPeak(12));
        Check.same("P24 two peaks", x.peakCount(), 2);
        x.setSlope(4);
        x.pile(12, 1);
        x.pile(11, 3);
        Check.no("P23 beside a higher one", x.isPeak(12));
        Check.yes("P23 the higher one", x.isPeak(11));
        Check.no("P23 no stone", x.isPeak(0));
    }

    private static void isPeakAtTheBorder() {
        HillContest x = new HillContest();
        int[] corners = {0, 4, 20, 24};
        for (int corner : corners) {
            x.pile(corner, 1);
        }
        for (int turn = 0; turn < 2; turn++) {
            for (int corner : corners) {
                Check.yes("P23 the corner " + corner, x.isPeak(corner));
            }
            Check.same("P24 four peaks", x.peakCount(), 4);
            x.setBorder(true);
        }
        // The cells 4 and 5 are no neighbours, though their numbers are.
        x.pile(5, 1);
        Check.yes("P23 the end of a row", x.isPeak(4));
        Check.no("P23 the begin of the next", x.isPeak(5));
        Check.no("P23 the cell above it", x.isPeak(0));
    }

    private static void peaksInOrder() {
        HillContest x = Hills.withPlayers(60);
        Check.fails("P25 no peak", ELEMENT, () -> x.peakAt(0));
        x.drop(0, 0, 1);
        x.pile(12, 2);
        x.drop(0, 24, 2);
        x.pile(14, 1);
        x.pile(20, 1);
        int[] order = {12, 24, 0, 14, 20};
        for (int rank = 0; rank < 5; rank++) {
            Check.same("P25 peakAt(" + rank + ")", x.peakAt(rank), order[rank]);
        }
        Check.same("P24 peakCount", x.peakCount(), 5);
        Check.fails("P25 peakAt(5)", ELEMENT, () -> x.peakAt(5));
        x.pile(0, 1);
        Check.same("P25 grown", x.peakAt(0) + " " + x.peakAt(1) + " " + x.peakAt(2), "0 12 24");
    }

    private static void peaksFail() {
        HillContest x = new HillContest();
        x.pile(12, 1);
        int[] ranks = {-1, 1, 2, 24, 25, Integer.MIN_VALUE, Integer.MAX_VALUE};
        for (int rank : ranks) {
            Check.fails("P25 peakAt(" + rank + ")", ELEMENT, () -> x.peakAt(rank));
        }
        int[] cells = {-1, 25, 26, Integer.MIN_VALUE, Integer.MAX_VALUE};
        for (int cell : cells) {
            Check.fails("P23 isPeak(" + cell + ")", INDEX, () -> x.isPeak(cell));
        }
    }

    private static void crownsAndScore() {
        HillContest x = Hills.withPlayers(60, 60);
        Check.same("P26 none", x.crowns(0), 0);
        Check.same("P27 none", x.score(0), 0);
        x.drop(0, 0, 2);
        x.drop(0, 24, 1);
        x.drop(0, 19, 2);
        x.drop(1, 12, 1);
        x.pile(4, 2);
        Check.same("P26 the peaks 0 and 19, not 24", x.crowns(0), 2);
        Check.same("P27 2 and 2", x.score(0), 4);
        Check.same("P26 the peak 12", x.crowns(1), 1);
        Check.same("P27 1", x.score(1), 1);
        x.drop(1, 0, 1);
        Check.same("P26 another's now, and lower", x.crowns(0) + " " + x.crowns(1), "1 2");
        Check.same("P27 another's now", x.score(0) + " " + x.score(1), "2 3");
        x.pile(12, 1);
        Check.same("P26 nobody's now", x.crowns(1), 1);
        Check.same("P27 nobody's now", x.score(1), 2);
    }

    private static void playersFail() {
        HillContest x = Hills.withPlayers(60, 60);
        x.pile(12, 1);
        for (int player : NO_PLAYERS) {
            Check.fails("P26 crowns(" + player + ")", INDEX, () -> x.crowns(player));
            Check.fails("P27 score(" + player + ")", INDEX, () -> x.score(player));
            Check.fails("P29 crownShare(" + player + ")", INDEX, () -> x.crownShare(player));
        }
    }

    private static String ranks(HillContest contest) {
        StringBuilder text = new StringBuilder();
        for (int rank = 0; rank < contest.playerCount(); rank++) {
            text.append(contest.playerAtRank(rank));
        }
        return text.toString();
    }

    private static void playerAtRank() {
        HillContest x = Hills.withPlayers(10, 20, 20, 5);
        Check.same("P28 by the stones in the hand, then the number", ranks(x), "1203");
        x.drop(3, 12, 1);
        Check.same("P28 the score comes first", ranks(x), "3120");
        x.drop(0, 24, 2);
        Check.same("P28 the greater score", ranks(x), "0312");
        x.drop(2, 0, 2);
        Check.same("P28 the same score, more in the hand", ranks(x), "2031");
        x.take(0, 24);
        Check.same("P28 a smaller score", ranks(x), "2031");
        x.take(0, 24);
        Check.same("P28 no score", ranks(x), "2310");
        HillContest y = Hills.withPlayers(30, 30, 30, 30);
        Check.same("P28 all the same", ranks(y), "0123");
        y.drop(2, 0, 1);
        Check.same("P28 one ahead", ranks(y), "2013");
    }

    private static void playerAtRankFails() {
        HillContest x = new HillContest();
        Check.fails("P28 without players", ELEMENT, () -> x.playerAtRank(0));
        x.addPlayer(1);
        x.addPlayer(1);
        int[] ranks = {-1, 2, 3, 4, Integer.MIN_VALUE, Integer.MAX_VALUE};
        for (int rank : ranks) {
            Check.fails("P28 playerAtRank(" + rank + ")", ELEMENT, () -> x.playerAtRank(rank));
        }
    }

    private static void crownShare() {
        HillContest x = Hills.withPlayers(60, 60);
        x.drop(0, 0, 1);
        Check.same("P29 the only peak", x.crownShare(0), 1.0f);
        Check.same("P29 no peak of several", x.crownShare(1), 0.0f);
        x.drop(1, 12, 2);
        x.drop(1, 24, 2);
        Check.same("P29 one third", x.crownShare(0), 1.0f / 3.0f);
        Check.same("P29 two thirds", x.crownShare(1), 2.0f / 3.0f);
        x.pile(4, 1);
        Check.same("P29 a peak of nobody counts", x.crownShare(0), 0.25f);
        Check.same("P29 two of four", x.crownShare(1), 0.5f);
    }

    private static void crownShareFails() {
        HillContest x = Hills.withPlayers(60, 60);
        Check.fails("P29 no peaks", ArithmeticException.class, () -> x.crownShare(0));
        Check.fails("P29 index first", INDEX, () -> x.crownShare(2));
        x.drop(0, 0, 1);
        x.drop(0, 1, 1);
        Check.fails("P29 stones, but no peak", ArithmeticException.class, () -> x.crownShare(0));
        Check.same("P26 no crowns", x.crowns(0), 0);
    }
}
