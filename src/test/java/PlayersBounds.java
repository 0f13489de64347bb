import java.util.NoSuchElementException;

/** Promises 1 to 9, sentence by sentence. */
final class PlayersBounds {
    private static final Class<IndexOutOfBoundsException> INDEX = IndexOutOfBoundsException.class;
    private static final Class<IllegalArgumentException> ARGUMENT = IllegalArgumentException.class;
    private static final Class<IllegalStateException> STATE = IllegalStateException.class;
    private static final Class<NoSuchElementException> ELEMENT = NoSuchElementException.class;
    private static final Class<UnsupportedOperationException> OPERATION =
            UnsupportedOperationException.class;

    private PlayersBounds() {}

    static void all() {
        Sentence.holds("Promise 1", "Creates an empty hill without players.", PlayersBounds::newObject);
        addPlayer();
        drop();
        pile();
        take();
        skip();
        players();
    }

    private static void addPlayer() {
        String section = "Promise 2";
        Sentence.holds(section, "`stones`: the number of stones in the hand of the player, 1 to 60",
                PlayersBounds::stonesOfPlayer);
        Sentence.holds(section, "Returns the number of the player.", PlayersBounds::numberOfPlayer);
        Sentence.holds(section, "Throws `IllegalArgumentException` if the number of stones is not from 1"
                + " to 60", PlayersBounds::addPlayerArgument);
        Sentence.holds(section, "Throws `IllegalStateException` if there are 4 players",
                PlayersBounds::addPlayerState);
    }

    private static void drop() {
        String section = "Promise 3";
        Sentence.holds(section, "Lets a player drop stones on a cell, which belongs to the player then.",
                PlayersBounds::dropTakesTheCell);
        Sentence.holds(section, "`cell`: the cell, 0 to 24", PlayersBounds::dropCell);
        Sentence.holds(section, "`stones`: the number of stones, 1 to 9", PlayersBounds::dropStones);
        Sentence.holds(section, "Throws `IndexOutOfBoundsException` if there is no such player or cell",
                PlayersBounds::dropIndex);
        Sentence.holds(section, "Throws `IllegalArgumentException` if the number of stones is not from 1"
                + " to 9", PlayersBounds::dropArgument);
        Sentence.holds(section, "Throws `IllegalStateException` if the player rests, or more than 300"
                + " stones would be on the hill", PlayersBounds::dropState);
        Sentence.holds(section, "Throws `UnsupportedOperationException` if the player has fewer stones in"
                + " the hand", PlayersBounds::dropOperation);
    }

    private static void pile() {
        String section = "Promise 4";
        Sentence.holds(section, "so that the cell belongs to nobody then", PlayersBounds::pileIsNobodys);
        Sentence.holds(section, "`cell`: the cell, 0 to 24", PlayersBounds::pileCell);
        Sentence.holds(section, "`stones`: the number of stones, 1 to 9", PlayersBounds::pileStones);
        Sentence.holds(section, "Throws `IndexOutOfBoundsException` if there is no such cell",
                PlayersBounds::pileIndex);
        Sentence.holds(section, "Throws `IllegalArgumentException` if the number of stones is not from 1"
                + " to 9", PlayersBounds::pileArgument);
        Sentence.holds(section, "Throws `IllegalStateException` if more than 300 stones would be on the"
                + " hill", PlayersBounds::pileState);
    }

    private static void take() {
        String section = "Promise 5";
        Sentence.holds(section, "into the hand, which can hold any number of stones",
                PlayersBounds::takeFillsTheHand);
        Sentence.holds(section, "`cell`: the cell, 0 to 24", PlayersBounds::takeCell);
        Sentence.holds(section, "Throws `IndexOutOfBoundsException` if there is no such player or cell",
                PlayersBounds::takeIndex);
        Sentence.holds(section, "Throws `NoSuchElementException` if there are no stones on the cell",
                PlayersBounds::takeElement);
        Sentence.holds(section, "Throws `UnsupportedOperationException` if the cell does not belong to"
                + " the player", PlayersBounds::takeOperation);
    }

    private static void skip() {
        Sentence.holds("Promise 6", "the rest of each player who rests decreases by 1",
                PlayersBounds::skipShortensRests);
        Sentence.holds("Promise 6", "Returns the number of players who rest after the call.",
                PlayersBounds::skipCounts);
    }

    private static void players() {
        String index = "Throws `IndexOutOfBoundsException` if there is no such player";
        Sentence.holds("Promise 7", "Returns the number of players.", PlayersBounds::playerCount);
        Sentence.holds("Promise 8", "Returns the number of stones in the hand of a player.",
                PlayersBounds::hand);
        Sentence.holds("Promise 8", index, PlayersBounds::handIndex);
        Sentence.holds("Promise 9", "Returns the number of rounds, 0 if the player does not rest.",
                PlayersBounds::restOfPlayer);
        Sentence.holds("Promise 9", index, PlayersBounds::restIndex);
    }

    private static void newObject() {
        HillContest x = new HillContest();
        Check.same("playerCount", x.playerCount(), 0);
        Check.same("stonesOnHill", x.stonesOnHill(), 0);
        Check.same("heights", Hills.heights(x).replaceAll("[ 0/]", ""), "");
        Check.same("owners", Hills.owners(x).replaceAll("[./]", ""), "");
        Check.same("undo", Look.answer(x::undo), "IllegalStateException");
        Check.same("restore", Look.answer(x::restore), "IllegalStateException");
        Check.same("errors", Look.errors(x), "NoSuchElementException NoSuchElementException");
        Check.same("line", Look.line(x), "");
        Check.same("append", x.append(' '), 1);
    }

    private static void stonesOfPlayer() {
        Bounds.between("addPlayer", 1, 60, ARGUMENT, Pasts::fresh, HillContest::addPlayer);
        HillContest x = Hills.withPlayers(1, 60);
        Check.same("the hands", x.hand(0) + " " + x.hand(1), "1 60");
    }

    private static void numberOfPlayer() {
        HillContest x = new HillContest();
        for (int player = 0; player < 4; player++) {
            Check.same("addPlayer", x.addPlayer(60 - player), player);
        }
        x.undo();
        Check.same("addPlayer after an undo", x.addPlayer(1), 3);
    }

    private static void addPlayerArgument() {
        Bounds.between("addPlayer", 1, 60, ARGUMENT, Pasts::busy, HillContest::addPlayer);
        Bounds.refused("addPlayer", -1, ARGUMENT, Pasts::busy, HillContest::addPlayer);
    }

    private static void addPlayerState() {
        Check.same("the fourth", Pasts.busy().addPlayer(1), 3);
        Twins.refuse("the fifth", STATE, Pasts::full, x -> x.addPlayer(1));
        Twins.refuse("the fifth", STATE, Pasts::full, x -> x.addPlayer(60));
        HillContest x = Pasts.full();
        x.undo();
        Check.answers("the fourth again", () -> x.addPlayer(60));
        Check.fails("the fifth again", STATE, () -> x.addPlayer(60));
    }

    private static void dropTakesTheCell() {
        HillContest x = Hills.withPlayers(60, 60);
        x.drop(0, 12, 1);
        Check.same("an empty cell", x.owner(12), 0);
        x.drop(1, 12, 1);
        Check.same("another's cell", x.owner(12), 1);
        x.pile(7, 1);
        x.drop(1, 7, 1);
        Check.same("nobody's cell", x.owner(7), 1);
        x.drop(0, 24, 9);
        Check.same("a cell that topples", x.owner(24), 0);
    }

    private static void dropCell() {
        Bounds.cells("drop", Pasts::busy, (x, cell) -> x.drop(1, cell, 1));
        HillContest x = Hills.withPlayers(60);
        x.drop(0, 0, 1);
        x.drop(0, 24, 2);
        Check.same("the first and the last", Hills.heights(x),
                "1 0 0 0 0/0 0 0 0 0/0 0 0 0 0/0 0 0 0 0/0 0 0 0 2");
    }

    private static void dropStones() {
        Bounds.stones("drop", Pasts::busy, (x, stones) -> x.drop(1, 12, stones));
        HillContest x = Hills.withPlayers(60);
        x.drop(0, 0, 1);
        Check.same("1 stone", x.hand(0) + " " + x.stonesOnHill() + " " + x.placedTotal(), "59 1 1");
        x.drop(0, 0, 9);
        Check.same("9 stones", x.hand(0) + " " + x.stonesOnHill() + " " + x.placedTotal(), "50 10 10");
    }

    private static void dropIndex() {
        Bounds.noPlayers("drop", (x, player) -> x.drop(player, 0, 1));
        // The first player of busy() rests.
        Bounds.players("drop", 2, () -> Hills.withPlayers(9, 9), (x, player) -> x.drop(player, 24, 1));
        Bounds.players("drop", 4, () -> Hills.withPlayers(9, 9, 9, 9),
                (x, player) -> x.drop(player, 24, 1));
        for (int player : new int[] {-1, 3, Integer.MIN_VALUE, Integer.MAX_VALUE}) {
            Bounds.refused("drop", player, INDEX, Pasts::busy, (x, number) -> x.drop(number, 0, 1));
        }
        Bounds.cells("drop", Pasts::busy, (x, cell) -> x.drop(2, cell, 1));
        Twins.refuse("drop(3, 25, 1)", INDEX, Pasts::busy, x -> x.drop(3, 25, 1));
    }

    private static void dropArgument() {
        Bounds.stones("drop", () -> Hills.withPlayers(9), (x, stones) -> x.drop(0, 24, stones));
        Bounds.refused("drop", -1, ARGUMENT, Pasts::busy, (x, stones) -> x.drop(1, 0, stones));
    }

    private static void dropState() {
        Twins.refuse("a rest of 1", STATE, Pasts::busy, x -> x.drop(0, 0, 1));
        HillContest rested = Pasts.busy();
        rested.skip();
        Check.answers("a rest of 0", () -> rested.drop(0, 0, 1));
        Twins.refuse("a full hill", STATE, Pasts::full, x -> x.drop(0, 0, 1));
        for (int stones = 2; stones <= 9; stones++) {
            int free = stones - 1;
            int number = stones;
            Twins.refuse("301 stones", STATE, () -> withRoomFor(free), x -> x.drop(0, 0, number));
            Check.answers("300 stones", () -> withRoomFor(number).drop(0, 0, number));
        }
    }

    /** A hill with room for a number of stones, and a player with as many as anybody can drop. */
    private static HillContest withRoomFor(int stones) {
        HillContest x = new HillContest();
        for (int i = 0; i < 32; i++) {
            x.pile(7 * i % 25, 9);
        }
        x.pile(12, 3);
        if (stones < 9) {
            x.pile(13, 9 - stones);
        }
        x.addPlayer(9);
        Check.same("the room", 300 - x.stonesOnHill(), stones);
        return x;
    }

    private static void dropOperation() {
        Check.answers("the whole hand", () -> Pasts.busy().drop(2, 0, 7));
        Twins.refuse("one more than the hand", OPERATION, Pasts::busy, x -> x.drop(2, 0, 8));
        Twins.refuse("two more than the hand", OPERATION, Pasts::busy, x -> x.drop(2, 0, 9));
        HillContest x = Hills.withPlayers(1);
        x.drop(0, 0, 1);
        Check.fails("an empty hand", OPERATION, () -> x.drop(0, 0, 1));
        x.take(0, 0);
        Check.answers("one stone again", () -> x.drop(0, 0, 1));
        Check.answers("9 of 9", () -> Hills.withPlayers(9).drop(0, 0, 9));
        Twins.refuse("9 of 8", OPERATION, () -> Hills.withPlayers(8), y -> y.drop(0, 0, 9));
    }

    private static void pileIsNobodys() {
        HillContest x = Hills.withPlayers(60);
        x.pile(12, 1);
        Check.fails("an empty cell", ELEMENT, () -> x.owner(12));
        x.drop(0, 0, 2);
        x.pile(0, 1);
        Check.fails("a player's cell", ELEMENT, () -> x.owner(0));
        Check.fails("and where its stone fell", ELEMENT, () -> x.owner(1));
        Check.same("no hand is touched", x.hand(0), 58);
    }

    private static void pileCell() {
        Bounds.cells("pile", Pasts::busy, (x, cell) -> x.pile(cell, 1));
        HillContest x = new HillContest();
        x.pile(0, 1);
        x.pile(24, 2);
        Check.same("the first and the last", Hills.heights(x),
                "1 0 0 0 0/0 0 0 0 0/0 0 0 0 0/0 0 0 0 0/0 0 0 0 2");
    }

    private static void pileStones() {
        Bounds.stones("pile", Pasts::busy, (x, stones) -> x.pile(12, stones));
        HillContest x = new HillContest();
        x.pile(0, 1);
        Check.same("1 stone", x.stonesOnHill() + " " + x.placedTotal(), "1 1");
        x.pile(0, 9);
        Check.same("9 stones", x.stonesOnHill() + " " + x.placedTotal(), "10 10");
    }

    private static void pileIndex() {
        Bounds.cells("pile", Pasts::fresh, (x, cell) -> x.pile(cell, 9));
    }

    private static void pileArgument() {
        Bounds.stones("pile", Pasts::fresh, (x, stones) -> x.pile(24, stones));
        Bounds.refused("pile", -1, ARGUMENT, Pasts::busy, (x, stones) -> x.pile(0, stones));
    }

    private static void pileState() {
        Twins.refuse("a full hill", STATE, Pasts::full, x -> x.pile(0, 1));
        for (int stones = 2; stones <= 9; stones++) {
            int free = stones - 1;
            int number = stones;
            Twins.refuse("301 stones", STATE, () -> withRoomFor(free), x -> x.pile(0, number));
            Check.answers("300 stones", () -> withRoomFor(number).pile(0, number));
        }
    }

    private static void takeFillsTheHand() {
        HillContest x = Hills.withPlayers(60);
        for (int stones = 61; stones <= 70; stones++) {
            x.pile(12, 2);
            x.drop(0, 12, 1);
            while (x.rest(0) > 0) {
                x.skip();
            }
            while (x.hand(0) < stones) {
                x.take(0, ownedCell(x));
            }
            Check.same("the hand", x.hand(0), stones);
        }
        Check.answers("may be dropped", () -> x.drop(0, 0, 9));
        Check.same("the rest of the hand", x.hand(0), 61);
    }

    private static int ownedCell(HillContest x) {
        return Hills.owners(x).replace("/", "").indexOf('0');
    }

    private static void takeCell() {
        for (int cell : new int[] {0, 24}) {
            HillContest x = Hills.withPlayers(9);
            x.drop(0, cell, 2);
            x.take(0, cell);
            Check.same("a stone from " + cell, x.height(cell) + " " + x.hand(0) + " " + x.takenTotal(), "1 8 1");
        }
        for (int cell : new int[] {-1, 25, Integer.MIN_VALUE, Integer.MAX_VALUE}) {
            Bounds.refused("take, cell", cell, INDEX, Pasts::busy, (x, number) -> x.take(0, number));
        }
    }

    private static void takeIndex() {
        Bounds.noPlayers("take", (x, player) -> x.take(player, 0));
        Check.answers("the first player", () -> Pasts.busy().take(0, 24));
        Check.answers("the last player", () -> Pasts.busy().take(2, 12));
        for (int player : new int[] {-1, 3, Integer.MIN_VALUE, Integer.MAX_VALUE}) {
            Bounds.refused("take, player", player, INDEX, Pasts::busy, (x, number) -> x.take(number, 24));
            Bounds.refused("take of nobody's, player", player, INDEX, Pasts::busy,
                    (x, number) -> x.take(number, 8));
        }
        HillContest four = Hills.withPlayers(9, 9, 9, 9);
        four.drop(3, 0, 1);
        Check.fails("take(4, 0)", INDEX, () -> four.take(4, 0));
        Check.answers("take(3, 0)", () -> four.take(3, 0));
        Bounds.refused("take, cell", -1, INDEX, Pasts::busy, (x, cell) -> x.take(2, cell));
        Bounds.refused("take, cell", 25, INDEX, Pasts::busy, (x, cell) -> x.take(2, cell));
        Twins.refuse("take(-1, 25)", INDEX, Pasts::busy, x -> x.take(-1, 25));
    }

    private static void takeElement() {
        Twins.refuse("a cell that never had one", ELEMENT, Pasts::busy, x -> x.take(0, 0));
        HillContest x = Hills.withPlayers(9);
        x.drop(0, 12, 1);
        Check.answers("the last stone", () -> x.take(0, 12));
        Check.fails("no stone", ELEMENT, () -> x.take(0, 12));
        Check.same("the hand", x.hand(0), 9);
    }

    private static void takeOperation() {
        Twins.refuse("another's", OPERATION, Pasts::busy, x -> x.take(0, 12));
        Twins.refuse("another's", OPERATION, Pasts::busy, x -> x.take(2, 24));
        Twins.refuse("nobody's", OPERATION, Pasts::busy, x -> x.take(0, 8));
        Check.answers("the player's own", () -> Pasts.busy().take(2, 12));
        HillContest x = Pasts.busy();
        x.drop(1, 12, 1);
        Check.fails("no more the player's", OPERATION, () -> x.take(2, 12));
        Check.answers("but the other's", () -> x.take(1, 12));
    }

    private static HillContest twoRest() {
        HillContest x = Hills.withPlayers(60, 60, 60, 60);
        x.pile(24, 9);
        x.drop(1, 24, 9);
        x.pile(0, 5);
        x.drop(0, 0, 4);
        Check.same("the rests", rests(x), "1 2 0 0");
        return x;
    }

    private static HillContest allRest() {
        HillContest x = Hills.withPlayers(60, 60, 60, 60);
        x.setSlope(2);
        for (int i = 0; i < 3; i++) {
            x.pile(12, 9);
        }
        for (int player = 0; player < 4; player++) {
            x.drop(player, 12, 9);
        }
        Check.same("the rests", rests(x), "1 3 5 4");
        return x;
    }

    private static String rests(HillContest x) {
        StringBuilder text = new StringBuilder();
        for (int player = 0; player < x.playerCount(); player++) {
            text.append(player > 0 ? " " : "").append(x.rest(player));
        }
        return text.toString();
    }

    private static void skipShortensRests() {
        HillContest x = twoRest();
        x.skip();
        Check.same("2 to 1, 1 to 0, 0 stays", rests(x), "0 1 0 0");
        x.skip();
        Check.same("1 to 0, 0 stays", rests(x), "0 0 0 0");
        x.skip();
        Check.same("0 stays", rests(x), "0 0 0 0");
    }

    private static void skipCounts() {
        Check.same("without players", new HillContest().skip(), 0);
        Check.same("nobody rests", Hills.withPlayers(60, 60).skip(), 0);
        Check.same("a rest of 1 ends, one of 2 does not", twoRest().skip(), 1);
        HillContest first = Hills.withPlayers(60, 60);
        first.pile(24, 9);
        first.drop(0, 24, 9);
        for (int due : new int[] {1, 1, 0, 0}) {
            Check.same("a rest of 3 of the first player", first.skip(), due);
        }
        HillContest x = allRest();
        for (int due : new int[] {3, 3, 2, 1, 0, 0}) {
            Check.same("skip", x.skip(), due);
        }
    }

    private static void playerCount() {
        HillContest x = new HillContest();
        for (int players = 0; players < 4; players++) {
            Check.same("playerCount", x.playerCount(), players);
            x.addPlayer(1);
        }
        Check.same("playerCount", x.playerCount(), 4);
        Check.fails("a fifth", STATE, () -> x.addPlayer(1));
        Check.same("playerCount", x.playerCount(), 4);
    }

    private static void hand() {
        HillContest x = Hills.withPlayers(1, 60, 9);
        Check.same("full hands", x.hand(0) + " " + x.hand(1) + " " + x.hand(2), "1 60 9");
        x.drop(0, 0, 1);
        x.drop(2, 24, 9);
        Check.same("empty hands", x.hand(0) + " " + x.hand(1) + " " + x.hand(2), "0 60 0");
        x.take(0, 0);
        Check.same("one stone again", x.hand(0), 1);
    }

    private static void handIndex() {
        Bounds.noPlayers("hand", HillContest::hand);
        Bounds.players("hand", 3, Pasts::busy, HillContest::hand);
        Bounds.players("hand", 4, Pasts::full, HillContest::hand);
    }

    private static void restOfPlayer() {
        HillContest x = Hills.withPlayers(60, 60);
        Check.same("at first", x.rest(0), 0);
        x.drop(0, 0, 6);
        Check.same("after 3 topples", x.rest(0), 0);
        x.drop(0, 24, 7);
        Check.same("after 4 topples", x.rest(0) + " " + x.rest(1), "1 0");
        x.skip();
        Check.same("after a round", x.rest(0), 0);
    }

    private static void restIndex() {
        Bounds.noPlayers("rest", HillContest::rest);
        Bounds.players("rest", 3, Pasts::busy, HillContest::rest);
        Bounds.players("rest", 4, Pasts::full, HillContest::rest);
    }
}
