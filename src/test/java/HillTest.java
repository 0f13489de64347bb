import java.util.NoSuchElementException;

/** Promises 10 to 22: the hill. */
final class HillTest {
    private static final Class<IndexOutOfBoundsException> INDEX = IndexOutOfBoundsException.class;
    private static final Class<IllegalArgumentException> ARGUMENT = IllegalArgumentException.class;
    private static final Class<NoSuchElementException> ELEMENT = NoSuchElementException.class;

    public static void main(String[] args) {
        setSlope();
        setSlopeFails();
        setBorder();
        borderComesToRest();
        height();
        owner();
        ownersOfTopples();
        steepness();
        lowestNeighbour();
        lowestNeighbourAtTheBorder();
        highestTopplesFirst();
        stones();
        highestCell();
        topplesIf();
        topplesIfOnAFullHill();
        topplesIfLikePile();
        topplesIfFails();
        Check.end();
    }

    private static void setSlope() {
        HillContest x = new HillContest();
        Check.same("P12 initially", x.criticalSlope(), 3);
        Check.same("P10 setSlope(6)", x.setSlope(6), 0);
        Check.same("P12 criticalSlope", x.criticalSlope(), 6);
        Check.same("P10 5 stones are not too steep", x.pile(12, 5), 0);
        for (int slope = 5; slope >= 2; slope--) {
            Check.same("P10 setSlope(" + slope + ")", x.setSlope(slope), 1);
            Check.same("P12 criticalSlope", x.criticalSlope(), slope);
        }
        Check.same("P10 heights", Hills.heights(x), "0 0 0 0 0/0 0 1 0 0/0 1 1 1 0/0 0 1 0 0/0 0 0 0 0");
        Check.same("P10 totals", x.toppleTotal() + " " + x.avalancheCount() + " " + x.largestAvalanche(), "4 4 1");
        HillContest y = Hills.withPlayers(60);
        y.setSlope(6);
        y.drop(0, 12, 5);
        Check.same("P10 setSlope(2)", y.setSlope(2), 4);
        Check.same("P10 its topples change no rest", y.rest(0), 0);
        Check.same("P10 owners", Hills.owners(y), "...../..0../.000./..0../.....");
    }

    private static void setSlopeFails() {
        HillContest x = new HillContest();
        x.setSlope(4);
        int[] wrong = {1, 7, 0, -1, 8, Integer.MIN_VALUE, Integer.MAX_VALUE};
        for (int slope : wrong) {
            Check.fails("P10 setSlope(" + slope + ")", ARGUMENT, () -> x.setSlope(slope));
        }
        Check.same("P10 nothing has changed", x.criticalSlope(), 4);
        Check.same("P10 nothing to undo but setSlope(4)", x.undo(), 0);
    }

    private static void setBorder() {
        HillContest x = new HillContest();
        Check.no("P13 initially", x.isBorderOpen());
        Check.no("P11 setBorder(false)", x.setBorder(false));
        Check.no("P13 still closed", x.isBorderOpen());
        Check.no("P11 setBorder(true)", x.setBorder(true));
        Check.yes("P13 open", x.isBorderOpen());
        Check.yes("P11 setBorder(true)", x.setBorder(true));
        Check.yes("P11 setBorder(false)", x.setBorder(false));
        Check.no("P13 closed", x.isBorderOpen());
        Check.no("P11 setBorder(false)", x.setBorder(false));
    }

    private static void borderComesToRest() {
        HillContest x = Hills.withPlayers(60);
        Hills.pileTo(x, 1, 2, 5, 2);
        x.drop(0, 0, 4);
        Check.same("P11 at rest while closed", x.toppleTotal(), 0);
        Check.no("P11 setBorder(true)", x.setBorder(true));
        Check.same("P11 heights", Hills.heights(x), "2 2 0 0 0/2 0 0 0 0/0 0 0 0 0/0 0 0 0 0/0 0 0 0 0");
        Check.same("P11 totals", x.lostTotal() + " " + x.toppleTotal() + " " + x.avalancheCount(), "2 2 1");
        Check.same("P11 its topples change no rest", x.rest(0), 0);
        x.pile(24, 9);
        Check.same("P11 an open corner", x.height(24) + " " + x.height(19) + " " + x.height(23), "2 1 1");
        Check.same("P11 stones are lost", x.lostTotal(), 7);
        x.setBorder(false);
        x.pile(20, 9);
        Check.same("P11 none is lost behind a closed border", x.lostTotal(), 7);
    }

    private static void height() {
        HillContest x = new HillContest();
        Hills.pileTo(x, 0, 1, 4, 2, 24, 2);
        Check.same("P14 heights", Hills.heights(x), "1 0 0 0 2/0 0 0 0 0/0 0 0 0 0/0 0 0 0 0/0 0 0 0 2");
        Check.fails("P14 height(-1)", INDEX, () -> x.height(-1));
        Check.fails("P14 height(25)", INDEX, () -> x.height(25));
        Check.fails("P14 height(max)", INDEX, () -> x.height(Integer.MAX_VALUE));
        Check.fails("P14 height(min)", INDEX, () -> x.height(Integer.MIN_VALUE));
    }

    private static void owner() {
        HillContest x = Hills.withPlayers(60, 60, 60, 60);
        for (int player = 0; player < 4; player++) {
            x.drop(player, 6 * player, 2);
            Check.same("P15 owner", x.owner(6 * player), player);
        }
        x.pile(24, 1);
        Check.fails("P15 a cell that nobody dropped on", ELEMENT, () -> x.owner(24));
        Check.fails("P15 an empty cell", ELEMENT, () -> x.owner(1));
        Check.fails("P15 owner(-1)", INDEX, () -> x.owner(-1));
        Check.fails("P15 owner(25)", INDEX, () -> x.owner(25));
        x.take(1, 6);
        Check.same("P15 one stone left", x.owner(6), 1);
        x.take(1, 6);
        Check.fails("P15 no stone left", ELEMENT, () -> x.owner(6));
    }

    private static void ownersOfTopples() {
        HillContest x = Hills.withPlayers(60, 60);
        x.drop(1, 7, 1);
        x.drop(1, 11, 2);
        x.drop(1, 13, 2);
        x.drop(1, 17, 2);
        Check.same("P15 a player's stone", x.drop(0, 12, 4), 1);
        Check.same("P15 takes the neighbour", Hills.owners(x), "...../..0../.101./..1../.....");
        HillContest y = Hills.withPlayers(60);
        y.setSlope(2);
        y.setBorder(true);
        Hills.pileTo(y, 1, 1, 5, 1);
        y.drop(0, 0, 1);
        Check.same("P15 nobody's pile", y.pile(0, 1), 1);
        Check.same("P15 falls outside", y.lostTotal() + " " + y.height(0), "1 1");
        Check.fails("P15 from nobody's cell", ELEMENT, () -> y.owner(0));
    }

    private static void steepness() {
        HillContest x = new HillContest();
        Check.same("P16 an empty hill", x.steepness(12), 0);
        Hills.pileTo(x, 1, 2, 5, 2, 7, 1, 11, 1, 13, 1, 17, 1);
        Check.same("P16 steepness(1)", x.steepness(1), 2);
        Check.same("P16 steepness(0)", x.steepness(0), -2);
        Check.same("P16 steepness(12)", x.steepness(12), -1);
        Check.same("P16 steepness(6)", x.steepness(6), -1);
        Check.same("P16 steepness(7)", x.steepness(7), 1);
        Check.same("P16 steepness(24)", x.steepness(24), 0);
        x.setBorder(true);
        Check.same("P16 the outside is low", x.steepness(0), 0);
        Check.same("P16 but no neighbour of an inner cell", x.steepness(12), -1);
        Check.fails("P16 steepness(-1)", INDEX, () -> x.steepness(-1));
        Check.fails("P16 steepness(25)", INDEX, () -> x.steepness(25));
        Check.fails("P16 steepness(max)", INDEX, () -> x.steepness(Integer.MAX_VALUE));
    }

    private static void lowestNeighbour() {
        HillContest x = new HillContest();
        int[] expected = {1, 0, 1, 2, 3, 0, 1, 2, 3, 4, 5, 6, 7, 8, 9, 10, 11, 12, 13, 14, 15, 16, 17, 18, 19};
        for (int cell = 0; cell < 25; cell++) {
            Check.same("P17 lowestNeighbour(" + cell + ")", x.lowestNeighbour(cell), expected[cell]);
        }
        x.setBorder(true);
        Check.same("P17 the outside is not lower", x.lowestNeighbour(0), 1);
        int[] order = {7, 11, 13, 17};
        for (int cell : order) {
            Check.same("P17 above, left, right, below", x.lowestNeighbour(12), cell);
            x.pile(cell, 1);
        }
        Check.same("P17 all are equal", x.lowestNeighbour(12), 7);
        x.pile(7, 1);
        x.pile(11, 1);
        Check.same("P17 the lowest of higher ones", x.lowestNeighbour(12), 13);
        Check.fails("P17 lowestNeighbour(-1)", INDEX, () -> x.lowestNeighbour(-1));
        Check.fails("P17 lowestNeighbour(25)", INDEX, () -> x.lowestNeighbour(25));
        Check.fails("P17 lowestNeighbour(min)", INDEX, () -> x.lowestNeighbour(Integer.MIN_VALUE));
    }

    private static void lowestNeighbourAtTheBorder() {
        HillContest x = new HillContest();
        for (int cell = 0; cell < 25; cell++) {
            x.pile(cell, 1);
        }
        Check.same("P17 closed", x.lowestNeighbour(0) + " " + x.lowestNeighbour(24), "1 19");
        x.setBorder(true);
        for (int cell = 0; cell < 25; cell++) {
            boolean isInner = cell > 4 && cell < 20 && cell % 5 > 0 && cell % 5 < 4;
            Check.same("P17 open, " + cell, x.lowestNeighbour(cell), isInner ? cell - 5 : 25);
        }
    }

    private static void highestTopplesFirst() {
        HillContest x = new HillContest();
        x.setSlope(6);
        Hills.pileTo(x, 0, 1, 1, 4, 3, 5, 4, 1, 6, 1, 8, 1);
        Check.same("P10 the higher cell is the first", x.setSlope(4), 1);
        Check.same("P10 and fills the gap", Hills.heights(x), "1 4 1 4 1/0 1 0 1 0/0 0 0 0 0/0 0 0 0 0/0 0 0 0 0");
        HillContest y = new HillContest();
        y.setSlope(6);
        Hills.pileTo(y, 0, 1, 1, 4, 3, 4, 4, 1, 6, 1, 8, 1);
        Check.same("P10 of equals the lower number", y.setSlope(4), 1);
        Check.same("P10 fills the gap", Hills.heights(y), "1 3 1 4 1/0 1 0 1 0/0 0 0 0 0/0 0 0 0 0/0 0 0 0 0");
    }

    private static void stones() {
        HillContest x = Hills.withPlayers(60);
        Check.same("P18 none", x.stonesOnHill(), 0);
        Check.same("P19 none", x.stonesByLevels(), 0);
        x.pile(12, 9);
        x.pile(12, 9);
        x.drop(0, 24, 2);
        Check.same("P18 stonesOnHill", x.stonesOnHill(), 20);
        Check.same("P19 stonesByLevels", x.stonesByLevels(), 20);
        x.take(0, 24);
        Check.same("P18 stonesOnHill", x.stonesOnHill(), 19);
        Check.same("P19 stonesByLevels", x.stonesByLevels(), 19);
        x.setBorder(true);
        for (int i = 0; i < 9; i++) {
            x.pile(i, 9);
        }
        Check.yes("P18 some are lost", x.lostTotal() > 0);
        Check.same("P18 stonesOnHill", x.stonesOnHill(), 100 - x.lostTotal());
        Check.same("P19 stonesByLevels", x.stonesByLevels(), 100 - x.lostTotal());
    }

    private static void highestCell() {
        HillContest x = new HillContest();
        Check.same("P20 an empty hill", x.highestCell(), 0);
        x.pile(24, 1);
        Check.same("P20 the last cell", x.highestCell(), 24);
        x.pile(13, 1);
        Check.same("P20 the lower number", x.highestCell(), 13);
        x.pile(24, 1);
        Check.same("P20 the higher cell", x.highestCell(), 24);
        x.pile(0, 2);
        Check.same("P20 the first cell", x.highestCell(), 0);
    }

    private static void topplesIf() {
        HillContest x = Hills.withPlayers(60);
        String before = Hills.everything(x);
        Check.same("P21 topplesIf(12, 2)", x.topplesIf(12, 2), 0);
        Check.same("P22 topplesIfByScan(12, 2)", x.topplesIfByScan(12, 2), 0);
        Check.same("P21 topplesIf(12, 3)", x.topplesIf(12, 3), 1);
        Check.same("P22 topplesIfByScan(12, 3)", x.topplesIfByScan(12, 3), 1);
        Check.same("P21 topplesIf(12, 9)", x.topplesIf(12, 9), 6);
        Check.same("P22 topplesIfByScan(12, 9)", x.topplesIfByScan(12, 9), 6);
        Check.same("P21 topplesIf(0, 9)", x.topplesIf(0, 9), 6);
        Check.same("P22 topplesIfByScan(0, 9)", x.topplesIfByScan(0, 9), 6);
        Check.same("P21 P22 nothing has changed", Hills.everything(x), before);
        Check.same("P21 P22 are no changes: only addPlayer is undone", x.undo(), 0);
        x.setSlope(6);
        Check.same("P21 with another slope", x.topplesIf(12, 6), 1);
        Check.same("P22 with another slope", x.topplesIfByScan(12, 6), 1);
        x.setSlope(3);
        x.setBorder(true);
        Check.same("P21 with an open border", x.topplesIf(0, 9), 7);
        Check.same("P22 with an open border", x.topplesIfByScan(0, 9), 7);
        Check.same("P21 P22 nothing is lost", x.lostTotal(), 0);
    }

    private static void topplesIfOnAFullHill() {
        HillContest x = new HillContest();
        for (int i = 0; i < 33; i++) {
            x.pile(7 * i % 25, 9);
        }
        x.pile(3, 3);
        Check.same("P21 a full hill", x.stonesOnHill(), 300);
        for (int cell = 0; cell < 25; cell++) {
            int byQueue = x.topplesIf(cell, 9);
            Check.yes("P21 topples at " + cell, byQueue > 0);
            Check.same("P22 at " + cell, x.topplesIfByScan(cell, 9), byQueue);
        }
        Check.same("P21 P22 no more stones", x.stonesOnHill(), 300);
    }

    private static void topplesIfLikePile() {
        HillContest x = Hills.withPlayers(60);
        x.setBorder(true);
        x.setSlope(2);
        x.drop(0, 12, 9);
        for (int i = 0; i < 60; i++) {
            int cell = 11 * i % 25;
            int stones = 1 + i % 9;
            int byQueue = x.topplesIf(cell, stones);
            Check.same("P22 " + cell + " " + stones, x.topplesIfByScan(cell, stones), byQueue);
            Check.same("P21 " + cell + " " + stones, byQueue, x.pile(cell, stones));
        }
    }

    private static void topplesIfFails() {
        HillContest x = new HillContest();
        int[] cells = {-1, 25, 26, Integer.MIN_VALUE, Integer.MAX_VALUE};
        for (int cell : cells) {
            Check.fails("P21 " + cell, INDEX, () -> x.topplesIf(cell, 1));
            Check.fails("P22 " + cell, INDEX, () -> x.topplesIfByScan(cell, 1));
            Check.fails("P21 index first, " + cell, INDEX, () -> x.topplesIf(cell, 0));
            Check.fails("P22 index first, " + cell, INDEX, () -> x.topplesIfByScan(cell, 0));
        }
        int[] stones = {0, 10, -1, Integer.MIN_VALUE, Integer.MAX_VALUE};
        for (int each : stones) {
            Check.fails("P21 stones " + each, ARGUMENT, () -> x.topplesIf(0, each));
            Check.fails("P22 stones " + each, ARGUMENT, () -> x.topplesIfByScan(24, each));
        }
    }
}
