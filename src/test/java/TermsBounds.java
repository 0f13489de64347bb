import java.util.NoSuchElementException;

/** The terms "The hill", "Neighbours", "Topples", "Rest" and "Peaks", sentence by sentence. */
final class TermsBounds {
    private static final Class<IndexOutOfBoundsException> INDEX = IndexOutOfBoundsException.class;
    private static final Class<IllegalStateException> STATE = IllegalStateException.class;
    private static final Class<NoSuchElementException> ELEMENT = NoSuchElementException.class;
    private static final String EMPTY_ROW = "0 0 0 0 0";

    private TermsBounds() {}

    static void all() {
        hill();
        neighbours();
        topples();
        rest();
        Sentence.holds("Peaks", "A cell is a peak if its height is at least 1 and greater than the"
                + " heights of all its neighbours that are cells", TermsBounds::peak);
    }

    private static void hill() {
        String section = "The hill";
        Sentence.holds(section, "The hill has 5 rows and 5 columns of cells", TermsBounds::size);
        Sentence.holds(section, "The cell with the number 5 * r + c is in the row r and the column c",
                TermsBounds::rowAndColumn);
        Sentence.holds(section, "The height of a cell is the number of stones on it", TermsBounds::height);
        Sentence.holds(section, "A cell belongs to a player or to nobody", TermsBounds::belongs);
        Sentence.holds(section, "A cell belongs to nobody from the moment at which it has no stones",
                TermsBounds::belongsToNobody);
        Sentence.holds(section, "At most 300 stones are on the hill", TermsBounds::mostStones);
    }

    private static void neighbours() {
        String section = "Neighbours";
        Sentence.holds(section, "The neighbours of a cell are the cells directly above, below, left and"
                + " right of it", TermsBounds::neighboursOfCells);
        Sentence.holds(section, "If the border is open, each cell of the first and last row and of the"
                + " first and last column also has the outside as a neighbour, whose height is 0",
                TermsBounds::outsideOfOpenBorder);
        Sentence.holds(section, "The outside counts as the number 25", TermsBounds::numberOfOutside);
        Sentence.holds(section, "The border is initially closed", TermsBounds::closedBorder);
        Sentence.holds(section, "The lowest neighbour of a cell is the one with the least height; of"
                + " several, the one with the lowest number", TermsBounds::lowestNeighbour);
    }

    private static void topples() {
        String section = "Topples";
        Sentence.holds(section, "A cell is unstable if its height minus the height of its lowest"
                + " neighbour is at least the critical slope", TermsBounds::unstable);
        Sentence.holds(section, "The critical slope is from 2 to 6, initially 3", TermsBounds::slope);
        Sentence.holds(section, "When a cell topples, one stone moves from it to its lowest neighbour",
                TermsBounds::oneStoneMoves);
        Sentence.holds(section, "A neighbour that is a cell belongs to the player then to whom the"
                + " toppled cell belonged before the topple, or to nobody if that cell belonged to"
                + " nobody, even if the neighbour belonged to a player", TermsBounds::ownerOfTheStone);
        Sentence.holds(section, "A stone that moves to the outside is lost", TermsBounds::lostStone);
        Sentence.holds(section, "To come to rest, the hill topples as long as a cell is unstable; each"
                + " time the highest unstable cell topples, and of several the one with the lowest"
                + " number", TermsBounds::order);
        Sentence.holds(section, "All topples of one call are an avalanche, if there is at least one; in"
                + " a run, this holds for each command", TermsBounds::avalanche);
    }

    private static void rest() {
        String section = "Rest";
        Sentence.holds(section, "If a drop of a player causes topples, the rest of the player becomes"
                + " the number of topples divided by 4, rounded down", TermsBounds::restAfterDrop);
        Sentence.holds(section, "Topples that have another cause do not change any rest",
                TermsBounds::otherTopples);
        Sentence.holds(section, "A player whose rest is greater than 0 rests; such a player cannot drop"
                + " stones but can take them", TermsBounds::restingPlayer);
        Sentence.holds(section, "Before a player drops stones, but after it is clear that no exception"
                + " is thrown, the rest of every other player who rests decreases by 1",
                TermsBounds::restOfOthers);
    }

    private static void size() {
        HillContest x = new HillContest();
        for (int cell = 0; cell < 25; cell++) {
            Check.same("height(" + cell + ")", x.height(cell), 0);
        }
        Check.fails("height(-1)", INDEX, () -> x.height(-1));
        Check.fails("height(25)", INDEX, () -> x.height(25));
        for (int row = 0; row < 5; row++) {
            Check.same("describeRow(" + row + ")", Hills.row(x, row), EMPTY_ROW);
        }
        Check.fails("describeRow(-1)", INDEX, () -> x.describeRow(-1));
        Check.fails("describeRow(5)", INDEX, () -> x.describeRow(5));
    }

    private static void rowAndColumn() {
        for (int row = 0; row < 5; row++) {
            for (int column = 0; column < 5; column++) {
                HillContest x = new HillContest();
                x.pile(5 * row + column, 1);
                StringBuilder due = new StringBuilder(EMPTY_ROW);
                due.replace(2 * column, 2 * column + 1, "1*");
                for (int other = 0; other < 5; other++) {
                    Check.same("row " + other + " with a stone in " + row + ", " + column,
                            Hills.row(x, other), other == row ? due.toString() : EMPTY_ROW);
                }
            }
        }
    }

    private static void height() {
        HillContest x = Hills.withPlayers(60);
        x.setSlope(6);
        Check.same("no stone", x.height(12), 0);
        x.pile(12, 1);
        Check.same("one stone", x.height(12), 1);
        x.drop(0, 12, 4);
        Check.same("the most that stay", x.height(12), 5);
        x.take(0, 12);
        Check.same("one taken", x.height(12), 4);
        x.pile(12, 1);
        Check.same("one piled", x.height(12), 5);
        x.pile(12, 1);
        Check.same("one piled, one fallen", x.height(12), 5);
        HillContest full = Pasts.full();
        int stones = 0;
        for (int cell = 0; cell < 25; cell++) {
            stones += full.height(cell);
        }
        Check.same("the heights of a full hill", stones, 300);
    }

    private static void belongs() {
        HillContest x = Hills.withPlayers(60, 60, 60, 60);
        Check.fails("at first to nobody", ELEMENT, () -> x.owner(7));
        for (int player = 0; player < 4; player++) {
            x.setSlope(6);
            x.drop(player, 7, 1);
            Check.same("to the player " + player, x.owner(7), player);
        }
        x.pile(7, 1);
        Check.fails("with stones to nobody", ELEMENT, () -> x.owner(7));
    }

    private static void belongsToNobody() {
        HillContest x = Hills.withPlayers(60);
        x.drop(0, 7, 2);
        x.take(0, 7);
        Check.same("with one stone", x.owner(7), 0);
        x.take(0, 7);
        Check.fails("without stones", ELEMENT, () -> x.owner(7));
        x.pile(7, 1);
        Check.fails("and from that moment on", ELEMENT, () -> x.owner(7));
        Check.fails("the stone is not the player's", UnsupportedOperationException.class, () -> x.take(0, 7));
        x.undo();
        x.undo();
        Check.same("undone", x.owner(7), 0);
    }

    private static void mostStones() {
        HillContest x = Pasts.almostFull();
        x.addPlayer(60);
        x.pile(3, 2);
        Check.same("299 stones", x.stonesOnHill(), 299);
        Check.fails("a drop to 301", STATE, () -> x.drop(0, 0, 2));
        Check.fails("a pile to 301", STATE, () -> x.pile(0, 2));
        Check.fails("a run to 301", STATE, () -> Hills.runText(x, "pile 0 1;pile 0 1"));
        Check.answers("a run to 300", () -> Hills.runText(x, "drop 0 0 1"));
        Check.same("300 stones", x.stonesOnHill(), 300);
        Check.fails("a drop to 301", STATE, () -> x.drop(0, 0, 1));
        Check.fails("a pile to 301", STATE, () -> x.pile(0, 1));
        x.take(0, 0);
        Check.answers("a stone is taken: a pile to 300", () -> x.pile(0, 1));
        Check.fails("a pile to 301", STATE, () -> x.pile(0, 1));
        x.setBorder(true);
        int room = 300 - x.stonesOnHill();
        Check.yes("stones are lost", room > 9);
        Check.answers("and have left room", () -> x.pile(0, 9));
    }

    private static boolean areNeighbours(int cell, int other) {
        int rows = Math.abs(cell / 5 - other / 5);
        int columns = Math.abs(cell % 5 - other % 5);
        return rows + columns == 1;
    }

    /** An equal neighbour takes a cell its peak: so each pair of cells tells whether it is one. */
    private static void neighboursOfCells() {
        for (int cell = 0; cell < 25; cell++) {
            HillContest x = new HillContest();
            x.pile(cell, 1);
            for (int other = 0; other < 25; other++) {
                if (other != cell) {
                    x.pile(other, 1);
                    Check.same(cell + " and " + other, !x.isPeak(cell), areNeighbours(cell, other));
                    x.undo();
                }
            }
        }
    }

    private static void outsideOfOpenBorder() {
        HillContest x = new HillContest();
        for (int cell = 0; cell < 25; cell++) {
            x.pile(cell, 1);
        }
        for (int cell = 0; cell < 25; cell++) {
            Check.no("closed, " + cell, x.lowestNeighbour(cell) == 25);
            Check.same("closed, " + cell, x.steepness(cell), 0);
        }
        x.setBorder(true);
        for (int cell = 0; cell < 25; cell++) {
            boolean isAtBorder = cell / 5 == 0 || cell / 5 == 4 || cell % 5 == 0 || cell % 5 == 4;
            Check.same("open, " + cell, x.lowestNeighbour(cell) == 25, isAtBorder);
            Check.same("open, " + cell, x.steepness(cell), isAtBorder ? 1 : 0);
        }
        x.setBorder(false);
        Check.same("closed again", x.lowestNeighbour(0), 1);
    }

    /** Of equals the lowest number comes first, so that each cell comes before the outside. */
    private static void numberOfOutside() {
        HillContest x = new HillContest();
        x.setBorder(true);
        x.pile(19, 1);
        Check.same("a cell as low as the outside", x.lowestNeighbour(24), 23);
        x.pile(23, 1);
        Check.same("the outside alone", x.lowestNeighbour(24), 25);
        x.undo();
        x.pile(24, 3);
        Check.same("the stone falls on the cell", x.height(23) + " " + x.lostTotal(), "1 0");
    }

    private static void closedBorder() {
        HillContest x = new HillContest();
        Check.no("isBorderOpen", x.isBorderOpen());
        x.pile(0, 9);
        Check.same("no stone is lost", x.stonesOnHill() + " " + x.lostTotal(), "9 0");
    }

    private static void lowestNeighbour() {
        HillContest x = new HillContest();
        Check.same("of four equals", x.lowestNeighbour(12), 7);
        x.pile(7, 1);
        Check.same("of three equals", x.lowestNeighbour(12), 11);
        x.pile(11, 1);
        Check.same("of two equals", x.lowestNeighbour(12), 13);
        x.pile(13, 1);
        Check.same("the least height", x.lowestNeighbour(12), 17);
        x.pile(17, 2);
        Check.same("of three equals again", x.lowestNeighbour(12), 7);
        x.pile(7, 1);
        x.pile(11, 1);
        Check.same("the least height has a higher number", x.lowestNeighbour(12), 13);
    }

    private static void unstable() {
        for (int slope = 2; slope <= 6; slope++) {
            HillContest x = new HillContest();
            x.setSlope(slope);
            Check.same("one less than " + slope, x.pile(12, slope - 1), 0);
            Check.same("one less than " + slope, x.steepness(12), slope - 1);
            Check.same("the slope " + slope, x.pile(12, 1), 1);
            HillContest y = new HillContest();
            y.setSlope(6);
            Hills.pileTo(y, 7, 1, 11, 1, 13, 1, 17, 1, 12, slope);
            Check.same("above stones, one less than " + slope, y.setSlope(slope), 0);
            // At the slope 2 the stone falls on, from the neighbour that has 2 then.
            Check.same("above stones, the slope " + slope, y.pile(12, 1), slope == 2 ? 2 : 1);
            HillContest z = new HillContest();
            z.setSlope(slope);
            z.setBorder(true);
            Hills.pileTo(z, 1, 1, 5, 1, 0, slope - 1);
            Check.same("above the outside, the slope " + slope, z.pile(0, 1), 1);
            Check.same("which is the lowest", z.lostTotal(), 1);
        }
    }

    private static void slope() {
        HillContest x = new HillContest();
        Check.same("initially", x.criticalSlope(), 3);
        Check.same("2 stones stay initially", x.pile(12, 2), 0);
        Check.same("3 do not", x.pile(12, 1), 1);
        for (int slope : new int[] {2, 6}) {
            x.setSlope(slope);
            Check.same("the slope", x.criticalSlope(), slope);
        }
        Check.fails("1", IllegalArgumentException.class, () -> x.setSlope(1));
        Check.fails("7", IllegalArgumentException.class, () -> x.setSlope(7));
        Check.same("stays", x.criticalSlope(), 6);
    }

    private static void oneStoneMoves() {
        HillContest x = new HillContest();
        Hills.pileTo(x, 7, 1, 11, 1, 17, 1);
        Check.same("one topple", x.pile(12, 3), 1);
        Check.same("one stone less, one more", Hills.heights(x),
                "0 0 0 0 0/0 0 1 0 0/0 1 2 1 0/0 0 1 0 0/0 0 0 0 0");
        Check.same("another topple", x.pile(12, 2), 1);
        Check.same("of several lowest to the first", Hills.heights(x),
                "0 0 0 0 0/0 0 2 0 0/0 1 3 1 0/0 0 1 0 0/0 0 0 0 0");
    }

    private static void ownerOfTheStone() {
        HillContest x = Hills.withPlayers(60, 60);
        x.drop(0, 12, 3);
        Check.same("a player's stone on an empty cell", Hills.owners(x), "...../..0../..0../...../.....");
        x.drop(1, 11, 1);
        x.drop(1, 13, 1);
        x.drop(1, 17, 1);
        Check.same("a player's stone", x.drop(0, 12, 2), 1);
        Check.same("on the lowest, another's cell", Hills.owners(x), "...../..0../.101./..1../.....");
        x.pile(11, 1);
        Check.same("nobody's stone", x.pile(12, 1), 1);
        Check.same("on another's cell: nobody's", Hills.owners(x), "...../..0../...../..1../.....");
        Check.same("where it fell", Hills.heights(x), "0 0 0 0 0/0 0 2 0 0/0 2 3 2 0/0 0 1 0 0/0 0 0 0 0");
    }

    private static void lostStone() {
        HillContest x = Hills.withPlayers(60);
        x.setBorder(true);
        Hills.pileTo(x, 1, 1, 5, 1);
        x.drop(0, 0, 2);
        Check.same("none yet", x.lostTotal(), 0);
        Check.same("one topple", x.drop(0, 0, 1), 1);
        Check.same("one stone", x.lostTotal() + " " + x.stonesOnHill(), "1 4");
        Check.same("is nowhere on the hill", Hills.heights(x), "2 1 0 0 0/1 0 0 0 0/0 0 0 0 0/0 0 0 0 0/0 0 0 0 0");
        Check.same("and takes no cell", Hills.owners(x), "0..../...../...../...../.....");
        Check.same("nor back to the hand", x.hand(0), 57);
        Check.same("nor taken", x.takenTotal(), 0);
    }

    private static void order() {
        HillContest x = new HillContest();
        x.setSlope(6);
        Hills.pileTo(x, 0, 1, 1, 4, 3, 5, 4, 1, 6, 1, 8, 1);
        Check.same("the higher of two", x.setSlope(4), 1);
        Check.same("it filled the gap", Hills.heights(x), "1 4 1 4 1/0 1 0 1 0/0 0 0 0 0/0 0 0 0 0/0 0 0 0 0");
        HillContest y = new HillContest();
        y.setSlope(6);
        Hills.pileTo(y, 0, 1, 1, 4, 3, 4, 4, 1, 6, 1, 8, 1);
        Check.same("of equals the lowest number", y.setSlope(4), 1);
        Check.same("it filled the gap", Hills.heights(y), "1 3 1 4 1/0 1 0 1 0/0 0 0 0 0/0 0 0 0 0/0 0 0 0 0");
        highestIsStable();
        asLongAsUnstable();
    }

    private static void highestIsStable() {
        HillContest x = new HillContest();
        x.setSlope(6);
        Hills.pileTo(x, 1, 3, 5, 3, 0, 5, 24, 4);
        Check.same("the highest unstable cell, not the highest", x.setSlope(4), 1);
        Check.same("toppled", Hills.heights(x), "5 3 0 0 0/3 0 0 0 0/0 0 0 0 0/0 0 0 0 1/0 0 0 0 3");
    }

    private static void asLongAsUnstable() {
        for (int slope = 2; slope <= 6; slope++) {
            HillContest x = Pasts.almostFull();
            x.setSlope(slope);
            x.setBorder(true);
            for (int cell = 0; cell < 25; cell++) {
                Check.yes("stable at " + slope + ": " + cell, x.steepness(cell) < slope);
            }
        }
    }

    private static String avalanches(HillContest x) {
        return x.toppleTotal() + " " + x.avalancheCount() + " " + x.largestAvalanche();
    }

    private static void avalanche() {
        HillContest x = new HillContest();
        x.pile(12, 2);
        Check.same("no topple", avalanches(x), "0 0 0");
        x.pile(12, 1);
        Check.same("one topple", avalanches(x), "1 1 1");
        x.pile(24, 9);
        Check.same("six topples", avalanches(x), "7 2 6");
        HillContest y = new HillContest();
        Hills.runText(y, "pile 12 2;pile 12 1;pile 24 9");
        Check.same("by command, none for the first", avalanches(y), "7 2 6");
        Hills.runText(y, "skip;open;close");
        Check.same("only the border's", y.avalancheCount(), 3);
    }

    private static void restAfterDrop() {
        int[][] piledDroppedTopplesRest = {
            {0, 2, 0, 0}, {0, 3, 1, 0}, {0, 6, 3, 0}, {0, 7, 4, 1}, {3, 7, 7, 1}, {1, 9, 8, 2},
            {6, 9, 11, 2}, {7, 9, 12, 3}
        };
        for (int[] numbers : piledDroppedTopplesRest) {
            HillContest x = Hills.withPlayers(60);
            if (numbers[0] > 0) {
                x.pile(0, numbers[0]);
            }
            String name = numbers[0] + " piled, " + numbers[1] + " dropped";
            Check.same(name + ": topples", x.drop(0, 0, numbers[1]), numbers[2]);
            Check.same(name + ": rest", x.rest(0), numbers[3]);
        }
    }

    private static void otherTopples() {
        HillContest x = Hills.withPlayers(60, 60);
        x.drop(0, 0, 7);
        Check.same("a rest of 1 and one of 0", x.rest(0) + " " + x.rest(1), "1 0");
        Check.same("6 topples of a pile", x.pile(24, 9), 6);
        Check.same("no rest has changed", x.rest(0) + " " + x.rest(1), "1 0");
        int before = x.toppleTotal();
        x.setBorder(true);
        Check.yes("topples of the border", x.toppleTotal() >= before + 2);
        Check.same("no rest has changed", x.rest(0) + " " + x.rest(1), "1 0");
        x.pile(12, 9);
        Check.yes("topples of the slope", x.setSlope(2) >= 4);
        Check.same("no rest has changed", x.rest(0) + " " + x.rest(1), "1 0");
        Hills.runText(x, "pile 0 9;slope 6;pile 12 9;slope 2");
        Check.same("nor by a run", x.rest(0) + " " + x.rest(1), "1 0");
        toppleOfATake();
    }

    private static void toppleOfATake() {
        HillContest x = Hills.withPlayers(60);
        x.setSlope(2);
        x.pile(16, 6);
        x.drop(0, 23, 5);
        x.skip();
        x.pile(4, 7);
        x.drop(0, 16, 9);
        int rest = x.rest(0);
        x.pile(15, 7);
        x.pile(15, 6);
        x.pile(20, 8);
        Check.yes("the player rests", rest > 1);
        Check.same("4 topples of a take", x.take(0, 18), 4);
        Check.same("the rest has not changed", x.rest(0), rest);
    }

    private static void restingPlayer() {
        HillContest x = Hills.withPlayers(60);
        x.drop(0, 0, 7);
        Check.same("a rest of 1", x.rest(0), 1);
        Check.fails("cannot drop", STATE, () -> x.drop(0, 12, 1));
        Check.answers("can take", () -> x.take(0, 0));
        Check.same("which ends no rest", x.rest(0), 1);
        Check.fails("cannot drop yet", STATE, () -> x.drop(0, 12, 1));
        x.skip();
        Check.same("a rest of 0", x.rest(0), 0);
        Check.answers("can drop", () -> x.drop(0, 12, 1));
    }

    private static void restOfOthers() {
        HillContest x = Hills.withPlayers(60, 60, 60);
        x.pile(24, 9);
        x.drop(1, 0, 7);
        Check.same("one rests", x.rest(0) + " " + x.rest(1) + " " + x.rest(2), "0 1 0");
        x.drop(0, 24, 9);
        Check.same("1 becomes 0 and stays there", x.rest(0) + " " + x.rest(1) + " " + x.rest(2), "3 0 0");
        Check.fails("a drop of too many stones", IllegalArgumentException.class, () -> x.drop(1, 12, 10));
        Check.fails("a drop on no cell", INDEX, () -> x.drop(1, 25, 1));
        Check.fails("a drop of the resting player", STATE, () -> x.drop(0, 12, 1));
        Check.same("what is refused lets none rest less", x.rest(0), 3);
        x.drop(1, 12, 1);
        Check.same("3 becomes 2", x.rest(0) + " " + x.rest(1) + " " + x.rest(2), "2 0 0");
        x.drop(2, 12, 1);
        Check.same("2 becomes 1", x.rest(0) + " " + x.rest(1) + " " + x.rest(2), "1 0 0");
        x.drop(1, 10, 1);
        Check.same("1 becomes 0", x.rest(0) + " " + x.rest(1) + " " + x.rest(2), "0 0 0");
        x.drop(2, 10, 1);
        Check.same("0 stays 0", x.rest(0) + " " + x.rest(1) + " " + x.rest(2), "0 0 0");
    }

    private static void peak() {
        for (int cell = 0; cell < 25; cell++) {
            HillContest x = new HillContest();
            Check.no("no stone on " + cell, x.isPeak(cell));
            x.pile(cell, 1);
            Check.yes("one stone on " + cell, x.isPeak(cell));
            x.setBorder(true);
            Check.yes("the outside is no cell, " + cell, x.isPeak(cell));
            for (int other = 0; other < 25; other++) {
                if (areNeighbours(cell, other)) {
                    x.pile(other, 1);
                    Check.no(cell + " as high as " + other, x.isPeak(cell));
                    x.pile(cell, 1);
                    Check.yes(cell + " higher than " + other, x.isPeak(cell));
                    x.undo();
                    x.pile(other, 1);
                    Check.no(cell + " lower than " + other, x.isPeak(cell));
                    x.undo();
                    x.undo();
                }
            }
        }
    }
}
