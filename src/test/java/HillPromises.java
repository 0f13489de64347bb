import java.util.NoSuchElementException;

/** The promises 10 to 22: the hill. */
final class HillPromises {
    private static final Class<IndexOutOfBoundsException> INDEX = IndexOutOfBoundsException.class;
    private static final Class<IllegalArgumentException> ARGUMENT = IllegalArgumentException.class;
    private static final Class<NoSuchElementException> ELEMENT = NoSuchElementException.class;
    private static final String TOPPLES = "Returns the number of topples.";
    private static final String STONES = "Returns the number of stones.";
    private static final int[] NO_CELLS = {-1, 25, Integer.MIN_VALUE, Integer.MAX_VALUE};

    private HillPromises() {}

    static void all() {
        slopeAndBorder();
        cells();
        stones();
    }

    private static void slopeAndBorder() {
        Promise.holds(10, "setSlope", "Sets the critical slope. Afterwards the hill comes to rest.", TOPPLES,
                HillPromises::setSlope);
        Promise.holds(11, "setBorder", "Opens or closes the border. Afterwards the hill comes to rest.",
                "Returns whether the border was open before.", HillPromises::setBorder);
        Promise.holds(12, "criticalSlope", "Returns the critical slope.", "Returns the critical slope.",
                HillPromises::criticalSlope);
        Promise.holds(13, "isBorderOpen", "Returns whether the border is open.", "Returns whether it is open.",
                HillPromises::isBorderOpen);
    }

    private static void cells() {
        Promise.holds(14, "height", "Returns the height of a cell.",
                "Returns the number of stones on the cell.", HillPromises::height);
        Promise.holds(15, "owner", "Returns the player to whom a cell belongs.", "Returns the player.",
                HillPromises::owner);
        Promise.holds(16, "steepness", "Returns the steepness of a cell: its height minus the height of its"
                + " lowest neighbour.", "Returns the steepness, negative if all neighbours are higher.",
                HillPromises::steepness);
        Promise.holds(17, "lowestNeighbour", "Returns the lowest neighbour of a cell.",
                "Returns the neighbour, or 25 for the outside.", HillPromises::lowestNeighbour);
    }

    private static void stones() {
        Promise.holds(18, "stonesOnHill", "Returns the number of stones on the hill, added cell by cell.",
                STONES, HillPromises::stonesOnHill);
        Promise.holds(19, "stonesByLevels", "Returns the same number as stonesOnHill(), added level by level:"
                + " for each height from 1 on the number of cells that have at least this height.",
                STONES, HillPromises::stonesByLevels);
        Promise.holds(20, "highestCell", "Returns the highest cell. If several cells are the highest, the one"
                + " with the lowest number is returned.", "Returns the cell.", HillPromises::highestCell);
        Promise.holds(21, "topplesIf", "Returns the number of topples if stones were piled on a cell now,"
                + " however many stones are on the hill. It is found with a priority queue of unstable cells.",
                TOPPLES, HillPromises::topplesIf);
        Promise.holds(22, "topplesIfByScan", "Returns the same number as topplesIf(), found by scanning all"
                + " cells before each topple.", TOPPLES, HillPromises::topplesIfByScan);
    }

    private static void setSlope() {
        HillContest x = new HillContest();
        Check.same("setSlope(6)", x.setSlope(6), 0);
        x.pile(12, 5);
        Check.same("5 stones stay at 6", Hills.heights(x), "0 0 0 0 0/0 0 0 0 0/0 0 5 0 0/0 0 0 0 0/0 0 0 0 0");
        Check.same("setSlope(2)", x.setSlope(2), 4);
        Check.same("one stone stays at 2", Hills.heights(x), "0 0 0 0 0/0 0 1 0 0/0 1 1 1 0/0 0 1 0 0/0 0 0 0 0");
        Check.same("criticalSlope", x.criticalSlope(), 2);
        for (int wrong : new int[] {1, 7, -2}) {
            Check.fails("setSlope(" + wrong + ")", ARGUMENT, () -> x.setSlope(wrong));
        }
        Check.same("stays", x.criticalSlope(), 2);
        x.undo();
        Check.same("undone", x.criticalSlope() + " " + x.height(12), "6 5");
    }

    private static void setBorder() {
        HillContest x = new HillContest();
        Hills.pileTo(x, 1, 2, 5, 2, 0, 4);
        Check.no("closed before", x.setBorder(false));
        Check.same("a corner as high as its neighbours let it", x.height(0), 4);
        Check.no("closed before", x.setBorder(true));
        Check.same("falls to the outside", x.height(0) + " " + x.lostTotal(), "2 2");
        Check.yes("open before", x.setBorder(true));
        Check.yes("open before", x.setBorder(false));
        Check.no("closed before", x.setBorder(true));
        Check.same("no more topples", x.toppleTotal() + " " + x.avalancheCount(), "2 1");
    }

    private static void criticalSlope() {
        HillContest x = new HillContest();
        Check.same("initially", x.criticalSlope(), 3);
        for (int slope = 2; slope <= 6; slope++) {
            x.setSlope(slope);
            Check.same("set", x.criticalSlope(), slope);
        }
        x.undo();
        Check.same("undone", x.criticalSlope(), 5);
    }

    private static void isBorderOpen() {
        HillContest x = new HillContest();
        Check.no("initially", x.isBorderOpen());
        x.setBorder(true);
        Check.yes("opened", x.isBorderOpen());
        x.setBorder(false);
        Check.no("closed", x.isBorderOpen());
        Hills.runText(x, "open");
        Check.yes("opened by a run", x.isBorderOpen());
        x.undo();
        Check.no("undone", x.isBorderOpen());
    }

    private static void height() {
        HillContest x = new HillContest();
        Hills.pileTo(x, 0, 2, 13, 1, 24, 2);
        Check.same("0, 12, 13, 24", x.height(0) + " " + x.height(12) + " " + x.height(13) + " " + x.height(24),
                "2 0 1 2");
        for (int cell : NO_CELLS) {
            Check.fails("height(" + cell + ")", INDEX, () -> x.height(cell));
        }
    }

    private static void owner() {
        HillContest x = Hills.withPlayers(60, 60, 60, 60);
        x.drop(3, 0, 1);
        x.drop(0, 24, 1);
        x.pile(12, 1);
        Check.same("0 and 24", x.owner(0) + " " + x.owner(24), "3 0");
        Check.fails("nobody's stone", ELEMENT, () -> x.owner(12));
        Check.fails("no stone", ELEMENT, () -> x.owner(13));
        x.drop(2, 0, 1);
        Check.same("another's drop", x.owner(0), 2);
        for (int cell : NO_CELLS) {
            Check.fails("owner(" + cell + ")", INDEX, () -> x.owner(cell));
        }
    }

    private static void steepness() {
        HillContest x = new HillContest();
        Hills.pileTo(x, 1, 2, 5, 1);
        Check.same("both neighbours higher", x.steepness(0), -1);
        Check.same("beside empty cells", x.steepness(1) + " " + x.steepness(5), "2 1");
        Check.same("an empty cell beside one", x.steepness(2), 0);
        x.setBorder(true);
        Check.same("the outside is no higher", x.steepness(0), 0);
        for (int cell : NO_CELLS) {
            Check.fails("steepness(" + cell + ")", INDEX, () -> x.steepness(cell));
        }
    }

    private static void lowestNeighbour() {
        HillContest x = new HillContest();
        Check.same("corners", x.lowestNeighbour(0) + " " + x.lowestNeighbour(4) + " " + x.lowestNeighbour(20)
                + " " + x.lowestNeighbour(24), "1 3 15 19");
        Hills.pileTo(x, 1, 1);
        Check.same("the lower one", x.lowestNeighbour(0), 5);
        Hills.pileTo(x, 5, 1);
        Check.same("of two the lowest number", x.lowestNeighbour(0), 1);
        x.setBorder(true);
        Check.same("the outside", x.lowestNeighbour(0), 25);
        Check.same("is as low as these", x.lowestNeighbour(24) + " " + x.lowestNeighbour(12), "19 7");
        for (int cell : NO_CELLS) {
            Check.fails("lowestNeighbour(" + cell + ")", INDEX, () -> x.lowestNeighbour(cell));
        }
    }

    private static void stonesOnHill() {
        HillContest x = Hills.withPlayers(60);
        Check.same("none", x.stonesOnHill(), 0);
        x.pile(0, 9);
        x.drop(0, 24, 2);
        Check.same("9 and 2", x.stonesOnHill(), 11);
        x.take(0, 24);
        Check.same("one taken", x.stonesOnHill(), 10);
        x.setBorder(true);
        Check.same("some lost", x.stonesOnHill(), 10 - x.lostTotal());
        Check.same("a full hill", Pasts.full().stonesOnHill(), 300);
    }

    private static void stonesByLevels() {
        HillContest x = new HillContest();
        Check.same("none", x.stonesByLevels(), 0);
        x.pile(24, 1);
        Check.same("one level, the last cell", x.stonesByLevels(), 1);
        x.setSlope(6);
        Hills.pileTo(x, 0, 5, 12, 4);
        Check.same("5 and 4 and 1", x.stonesByLevels(), 10);
        Check.same("a full hill", Pasts.full().stonesByLevels(), 300);
    }

    private static void highestCell() {
        HillContest x = new HillContest();
        Check.same("of 25 empty cells", x.highestCell(), 0);
        Hills.pileTo(x, 24, 1);
        Check.same("the only one", x.highestCell(), 24);
        Hills.pileTo(x, 20, 1, 22, 1);
        Check.same("of three", x.highestCell(), 20);
        Hills.pileTo(x, 22, 1);
        Check.same("the highest", x.highestCell(), 22);
    }

    private static void topplesIf() {
        HillContest x = new HillContest();
        Check.same("2 stones", x.topplesIf(12, 2), 0);
        Check.same("3 stones", x.topplesIf(12, 3), 1);
        Check.same("9 in a corner", x.topplesIf(0, 9), 6);
        Check.same("no stone stays", x.stonesOnHill() + " " + x.toppleTotal() + " " + x.placedTotal(), "0 0 0");
        HillContest full = Pasts.full();
        Check.yes("9 on a full hill", full.topplesIf(full.highestCell(), 9) > 0);
        for (int cell : NO_CELLS) {
            Check.fails("topplesIf(" + cell + ", 0)", INDEX, () -> x.topplesIf(cell, 0));
        }
        Check.fails("0 stones", ARGUMENT, () -> x.topplesIf(0, 0));
        Check.fails("10 stones", ARGUMENT, () -> x.topplesIf(0, 10));
    }

    private static void topplesIfByScan() {
        HillContest x = new HillContest();
        Check.same("2 stones", x.topplesIfByScan(12, 2), 0);
        Check.same("3 stones", x.topplesIfByScan(12, 3), 1);
        Check.same("9 in a corner", x.topplesIfByScan(0, 9), 6);
        Check.same("no stone stays", x.stonesOnHill() + " " + x.toppleTotal() + " " + x.placedTotal(), "0 0 0");
        HillContest full = Pasts.full();
        for (int cell = 0; cell < 25; cell++) {
            Check.same("9 on a full hill", full.topplesIfByScan(cell, 9), full.topplesIf(cell, 9));
        }
        for (int cell : NO_CELLS) {
            Check.fails("topplesIfByScan(" + cell + ", 0)", INDEX, () -> x.topplesIfByScan(cell, 0));
        }
        Check.fails("0 stones", ARGUMENT, () -> x.topplesIfByScan(0, 0));
        Check.fails("10 stones", ARGUMENT, () -> x.topplesIfByScan(0, 10));
    }
}
