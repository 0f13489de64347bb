import java.util.NoSuchElementException;

/** Promises 10 to 22, sentence by sentence. */
final class HillBounds {
    private static final Class<IllegalArgumentException> ARGUMENT = IllegalArgumentException.class;
    private static final Class<NoSuchElementException> ELEMENT = NoSuchElementException.class;
    private static final String CELL = "`cell`: the cell, 0 to 24";
    private static final String STONES = "`stones`: the number of stones, 1 to 9";
    private static final String NO_CELL = "Throws `IndexOutOfBoundsException` if there is no such cell";
    private static final String NO_STONES =
            "Throws `IllegalArgumentException` if the number of stones is not from 1 to 9";

    private HillBounds() {}

    static void all() {
        slopeAndBorder();
        cells();
        lowestNeighbours();
        stones();
        tries();
    }

    private static void slopeAndBorder() {
        Sentence.holds("Promise 10", "`slope`: the new critical slope, 2 to 6", HillBounds::slopes);
        Sentence.holds("Promise 10", "Returns the number of topples.", HillBounds::topplesOfSlope);
        Sentence.holds("Promise 10", "Throws `IllegalArgumentException` if the slope is not from 2 to 6",
                HillBounds::slopeArgument);
        Sentence.holds("Promise 11", "Returns whether the border was open before.", HillBounds::borderBefore);
        Sentence.holds("Promise 11", "Afterwards the hill comes to rest.", HillBounds::borderComesToRest);
        Sentence.holds("Promise 12", "Returns the critical slope.", HillBounds::criticalSlope);
        Sentence.holds("Promise 13", "Returns whether it is open.", HillBounds::isBorderOpen);
    }

    private static void cells() {
        Sentence.holds("Promise 14", CELL, HillBounds::heightCell);
        Sentence.holds("Promise 14", NO_CELL, () -> noCell("height", HillContest::height));
        Sentence.holds("Promise 15", CELL, HillBounds::ownerCell);
        Sentence.holds("Promise 15", NO_CELL, () -> Bounds.cells("owner", HillBounds::ends, HillContest::owner));
        Sentence.holds("Promise 15", "Throws `NoSuchElementException` if the cell belongs to nobody",
                HillBounds::ownerElement);
        Sentence.holds("Promise 16", CELL, HillBounds::steepnessCell);
        Sentence.holds("Promise 16", "Returns the steepness, negative if all neighbours are higher.",
                HillBounds::negativeSteepness);
        Sentence.holds("Promise 16", NO_CELL, () -> noCell("steepness", HillContest::steepness));
    }

    private static void lowestNeighbours() {
        Sentence.holds("Promise 17", CELL, HillBounds::lowestNeighbourCell);
        Sentence.holds("Promise 17", "Returns the neighbour, or 25 for the outside.", HillBounds::outside);
        Sentence.holds("Promise 17", NO_CELL, () -> noCell("lowestNeighbour", HillContest::lowestNeighbour));
    }

    private static void stones() {
        Sentence.holds("Promise 18", "Returns the number of stones.", HillBounds::stonesOnHill);
        Sentence.holds("Promise 19", "for each height from 1 on the number of cells that have at least"
                + " this height", HillBounds::stonesByLevels);
        Sentence.holds("Promise 20", "If several cells are the highest, the one with the lowest number is"
                + " returned.", HillBounds::highestCell);
    }

    private static void tries() {
        Sentence.holds("Promise 21", "if stones were piled on a cell now, however many stones are on the"
                + " hill", () -> tryOnAFullHill("topplesIf", HillContest::topplesIf));
        Sentence.holds("Promise 21", "It is found with a priority queue of unstable cells.",
                HillBounds::tryInOrder);
        Sentence.holds("Promise 21", CELL, () -> tryAtEnds(HillContest::topplesIf));
        Sentence.holds("Promise 21", STONES, () -> tryFewAndMany(HillContest::topplesIf));
        Sentence.holds("Promise 21", NO_CELL, () -> tryNoCell("topplesIf", HillContest::topplesIf));
        Sentence.holds("Promise 21", NO_STONES, () -> tryNoStones("topplesIf", HillContest::topplesIf));
        Sentence.holds("Promise 22", "Returns the same number as topplesIf()",
                () -> tryOnAFullHill("topplesIfByScan", HillContest::topplesIfByScan));
        Sentence.holds("Promise 22", CELL, () -> tryAtEnds(HillContest::topplesIfByScan));
        Sentence.holds("Promise 22", STONES, () -> tryFewAndMany(HillContest::topplesIfByScan));
        Sentence.holds("Promise 22", NO_CELL, () -> tryNoCell("topplesIfByScan", HillContest::topplesIfByScan));
        Sentence.holds("Promise 22", NO_STONES,
                () -> tryNoStones("topplesIfByScan", HillContest::topplesIfByScan));
    }

    /** A player's stones on the first and the last cell. */
    private static HillContest ends() {
        HillContest x = Hills.withPlayers(60, 60);
        x.drop(1, 0, 1);
        x.drop(0, 24, 2);
        return x;
    }

    private static void noCell(String call, Bounds.Call asking) {
        Bounds.cells(call, Pasts::fresh, asking);
        Bounds.cells(call, Pasts::busy, asking);
    }

    private static void slopes() {
        Bounds.between("setSlope", 2, 6, ARGUMENT, Pasts::fresh, HillContest::setSlope);
        for (int slope = 2; slope <= 6; slope++) {
            HillContest x = new HillContest();
            x.setSlope(slope);
            Check.same("the slope", x.criticalSlope(), slope);
        }
    }

    private static void topplesOfSlope() {
        HillContest x = new HillContest();
        x.setSlope(6);
        x.pile(12, 5);
        Check.same("the same slope", x.setSlope(6), 0);
        Check.same("5 is steep enough", x.setSlope(5), 1);
        Check.same("4 is steep enough", x.setSlope(4), 1);
        Check.same("a greater slope", x.setSlope(6), 0);
        Check.same("3 is steep enough", x.setSlope(3), 1);
        Check.same("2 is steep enough", x.setSlope(2), 1);
    }

    private static void slopeArgument() {
        Bounds.between("setSlope", 2, 6, ARGUMENT, Pasts::busy, HillContest::setSlope);
        for (int slope : new int[] {0, -1, -2, 8, 9}) {
            Bounds.refused("setSlope", slope, ARGUMENT, Pasts::busy, HillContest::setSlope);
        }
    }

    private static void borderBefore() {
        HillContest x = new HillContest();
        boolean before = false;
        for (boolean isOpen : new boolean[] {false, true, true, false, false, true}) {
            Check.same("setBorder(" + isOpen + ")", x.setBorder(isOpen), before);
            before = isOpen;
        }
        x.undo();
        Check.no("after an undo", x.setBorder(true));
    }

    private static void borderComesToRest() {
        HillContest x = new HillContest();
        Hills.pileTo(x, 1, 2, 5, 2, 0, 3);
        x.setBorder(true);
        Check.same("3 stones above the outside", x.height(0) + " " + x.lostTotal(), "2 1");
        x.setBorder(true);
        Check.same("2 stones above the outside", x.height(0) + " " + x.lostTotal(), "2 1");
        x.setBorder(false);
        x.pile(0, 1);
        Check.same("3 stones behind the closed border", x.height(0) + " " + x.lostTotal(), "3 1");
    }

    private static void criticalSlope() {
        HillContest x = new HillContest();
        Check.same("initially", x.criticalSlope(), 3);
        x.setSlope(2);
        Check.same("the least", x.criticalSlope(), 2);
        x.setSlope(6);
        Check.same("the greatest", x.criticalSlope(), 6);
        x.undo();
        x.undo();
        Check.same("undone", x.criticalSlope(), 3);
    }

    private static void isBorderOpen() {
        HillContest x = new HillContest();
        Check.no("initially", x.isBorderOpen());
        x.setBorder(true);
        Check.yes("opened", x.isBorderOpen());
        x.setBorder(true);
        Check.yes("opened twice", x.isBorderOpen());
        x.setBorder(false);
        Check.no("closed", x.isBorderOpen());
    }

    private static void heightCell() {
        HillContest x = ends();
        Check.same("the first and the last", x.height(0) + " " + x.height(24), "1 2");
        Check.same("their neighbours", x.height(1) + " " + x.height(23), "0 0");
        noCell("height", HillContest::height);
    }

    private static void ownerCell() {
        HillContest x = ends();
        Check.same("the first and the last", x.owner(0) + " " + x.owner(24), "1 0");
        Bounds.cells("owner", HillBounds::ends, HillContest::owner);
    }

    private static void ownerElement() {
        Twins.refuse("an empty cell", ELEMENT, Pasts::busy, x -> x.owner(0));
        Twins.refuse("a piled cell", ELEMENT, Pasts::busy, x -> x.owner(8));
        Check.same("a player's cell", Pasts.busy().owner(4), 1);
        HillContest x = Pasts.busy();
        x.pile(4, 1);
        Check.fails("piled on", ELEMENT, () -> x.owner(4));
        x.take(2, 12);
        Check.same("one stone left", x.owner(12), 2);
        x.take(2, 12);
        Check.fails("no stone left", ELEMENT, () -> x.owner(12));
    }

    private static void steepnessCell() {
        HillContest x = ends();
        Check.same("the first and the last", x.steepness(0) + " " + x.steepness(24), "1 2");
        Check.same("beside them", x.steepness(1) + " " + x.steepness(23), "0 0");
        noCell("steepness", HillContest::steepness);
    }

    private static void negativeSteepness() {
        HillContest x = new HillContest();
        x.pile(1, 2);
        Check.same("one of two is higher", x.steepness(0), 0);
        x.pile(5, 1);
        Check.same("all are higher, by 1", x.steepness(0), -1);
        x.pile(5, 1);
        Check.same("all are higher, by 2", x.steepness(0), -2);
        x.pile(0, 2);
        Check.same("all are as high", x.steepness(0), 0);
        x.undo();
        x.setBorder(true);
        Check.same("but the outside is not", x.steepness(0), 0);
        Check.same("2 above the outside", x.steepness(1), 2);
    }

    private static void lowestNeighbourCell() {
        HillContest x = ends();
        Check.same("the first and the last", x.lowestNeighbour(0) + " " + x.lowestNeighbour(24), "1 19");
        Check.same("the first and the last as neighbours", x.lowestNeighbour(1) + " " + x.lowestNeighbour(23),
                "2 18");
        noCell("lowestNeighbour", HillContest::lowestNeighbour);
    }

    private static void outside() {
        HillContest x = new HillContest();
        x.setBorder(true);
        Check.same("the cells are as low", x.lowestNeighbour(24), 19);
        Hills.pileTo(x, 19, 1, 23, 1);
        Check.same("the outside is lower", x.lowestNeighbour(24), 25);
        x.setBorder(false);
        Check.same("the border is closed", x.lowestNeighbour(24), 19);
        HillContest y = new HillContest();
        y.setBorder(true);
        Hills.pileTo(y, 1, 1, 5, 1, 7, 1, 11, 1);
        Check.same("an inner cell is not at the border", y.lowestNeighbour(6), 1);
    }

    private static void stonesOnHill() {
        Check.same("none", new HillContest().stonesOnHill(), 0);
        Check.same("the most", Pasts.full().stonesOnHill(), 300);
        HillContest x = ends();
        Check.same("on the first and the last cell", x.stonesOnHill(), 3);
        x.take(1, 0);
        Check.same("one is taken", x.stonesOnHill(), 2);
        HillContest y = new HillContest();
        y.setBorder(true);
        y.pile(0, 9);
        Check.same("some are lost", y.stonesOnHill(), 9 - y.lostTotal());
        Check.yes("some are lost", y.lostTotal() > 0);
    }

    private static void stonesByLevels() {
        Check.same("none", new HillContest().stonesByLevels(), 0);
        Check.same("the most", Pasts.full().stonesByLevels(), 300);
        HillContest x = ends();
        Check.same("one of the level 1, one of the level 2", x.stonesByLevels(), 3);
        x.take(1, 0);
        Check.same("one of the level 2", x.stonesByLevels(), 2);
        x.take(0, 24);
        Check.same("one of the level 1", x.stonesByLevels(), 1);
        x.take(0, 24);
        Check.same("none again", x.stonesByLevels(), 0);
    }

    private static void highestCell() {
        HillContest x = new HillContest();
        Check.same("all without stones", x.highestCell(), 0);
        x.pile(24, 1);
        Check.same("the last alone", x.highestCell(), 24);
        x.pile(23, 1);
        Check.same("two are the highest", x.highestCell(), 23);
        x.pile(0, 1);
        Check.same("three are the highest", x.highestCell(), 0);
        x.pile(23, 1);
        Check.same("one is higher", x.highestCell(), 23);
        for (int cell = 0; cell < 24; cell++) {
            HillContest y = new HillContest();
            Hills.pileTo(y, cell, 1, 24, 1);
            Check.same(cell + " as high as 24", y.highestCell(), cell);
            y.pile(24, 1);
            Check.same(cell + " lower than 24", y.highestCell(), 24);
            y.undo();
            y.pile(cell, 1);
            Check.same(cell + " higher than 24", y.highestCell(), cell);
        }
    }

    private interface Try {
        int of(HillContest contest, int cell, int stones);
    }

    private static void tryOnAFullHill(String call, Try trying) {
        HillContest full = Pasts.full();
        Model model = new Model();
        for (int i = 0; i < 33; i++) {
            model.pile(7 * i % 25, 9);
        }
        model.pile(3, 3);
        String before = Hills.everything(full);
        for (int cell = 0; cell < 25; cell++) {
            for (int stones = 1; stones <= 9; stones += 4) {
                Check.same(call + " " + cell + " " + stones, trying.of(full, cell, stones),
                        model.topplesIf(cell, stones));
            }
        }
        Check.same(call + " changes nothing", Hills.everything(full), before);
        Check.fails("a pile is refused", IllegalStateException.class, () -> full.pile(0, 1));
        HillContest empty = new HillContest();
        Check.same(call + " on an empty hill", trying.of(empty, 12, 3), 1);
        Check.same(call + " on an empty hill", trying.of(empty, 12, 2), 0);
    }

    /** Hills on which the number of topples is another one if a cell topples before a higher one. */
    private static void tryInOrder() {
        HillContest x = new HillContest();
        x.setSlope(2);
        x.setBorder(true);
        x.pile(8, 4);
        Check.same("with an open border", x.topplesIf(8, 9), 15);
        Check.same("by scan", x.topplesIfByScan(8, 9), 15);
        HillContest y = new HillContest();
        y.setSlope(2);
        y.pile(19, 2);
        y.pile(9, 3);
        y.pile(20, 4);
        Check.same("with a closed border", y.topplesIf(2, 9), 10);
        Check.same("by scan", y.topplesIfByScan(2, 9), 10);
        Check.same("the pile", y.pile(2, 9), 10);
    }

    /** As many topples as the pile has that follows. */
    private static void tryAtEnds(Try trying) {
        for (int cell : new int[] {0, 24}) {
            HillContest x = ends();
            x.setBorder(true);
            int tried = trying.of(x, cell, 9);
            Check.yes("topples at " + cell, tried > 0);
            Check.same("the pile on " + cell, x.pile(cell, 9), tried);
        }
        HillContest y = new HillContest();
        Check.same("the first cell alone", trying.of(y, 0, 9), 6);
        Check.same("the last cell alone", trying.of(y, 24, 9), 6);
    }

    private static void tryFewAndMany(Try trying) {
        HillContest x = new HillContest();
        Check.same("1 stone", trying.of(x, 12, 1), 0);
        Check.same("9 stones", trying.of(x, 12, 9), 6);
        x.pile(12, 2);
        Check.same("1 more is too steep", trying.of(x, 12, 1), 1);
        Check.same("9 more", trying.of(x, 12, 9), x.pile(12, 9));
    }

    private static void tryNoCell(String call, Try trying) {
        noCell(call, (x, cell) -> trying.of(x, cell, 9));
        Bounds.cells(call, Pasts::full, (x, cell) -> trying.of(x, cell, 1));
    }

    private static void tryNoStones(String call, Try trying) {
        Bounds.stones(call, Pasts::fresh, (x, stones) -> trying.of(x, 0, stones));
        Bounds.stones(call, Pasts::busy, (x, stones) -> trying.of(x, 24, stones));
        Bounds.stones(call, Pasts::full, (x, stones) -> trying.of(x, 12, stones));
        Bounds.refused(call, -1, ARGUMENT, Pasts::busy, (x, stones) -> trying.of(x, 12, stones));
    }
}
