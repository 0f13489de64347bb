import java.util.NoSuchElementException;

/** The promises 1 to 9: a new object, players and stones. */
final class PlayersPromises {
    private static final Class<IndexOutOfBoundsException> INDEX = IndexOutOfBoundsException.class;
    private static final Class<IllegalArgumentException> ARGUMENT = IllegalArgumentException.class;
    private static final Class<IllegalStateException> STATE = IllegalStateException.class;
    private static final Class<NoSuchElementException> ELEMENT = NoSuchElementException.class;
    private static final Class<UnsupportedOperationException> OPERATION =
            UnsupportedOperationException.class;
    private static final String TOPPLES = "Returns the number of topples.";

    private PlayersPromises() {}

    static void all() {
        Promise.holds(1, "A new object", "Creates an empty hill without players.", "",
                PlayersPromises::newObject);
        Promise.holds(2, "addPlayer", "Adds a player.", "Returns the number of the player.",
                PlayersPromises::addPlayer);
        Promise.holds(3, "drop", "Lets a player drop stones on a cell, which belongs to the player then."
                + " Afterwards the hill comes to rest.", TOPPLES, PlayersPromises::drop);
        Promise.holds(4, "pile", "Puts stones on a cell that nobody drops, so that the cell belongs to"
                + " nobody then. Afterwards the hill comes to rest.", TOPPLES, PlayersPromises::pile);
        Promise.holds(5, "take", "Lets a player take one stone from a cell into the hand, which can hold"
                + " any number of stones. Afterwards the hill comes to rest.", TOPPLES, PlayersPromises::take);
        Promise.holds(6, "skip", "Lets a round pass: the rest of each player who rests decreases by 1.",
                "Returns the number of players who rest after the call.", PlayersPromises::skip);
        Promise.holds(7, "playerCount", "Returns the number of players.", "Returns the number of players.",
                PlayersPromises::playerCount);
        Promise.holds(8, "hand", "Returns the number of stones in the hand of a player.",
                "Returns the number of stones.", PlayersPromises::hand);
        Promise.holds(9, "rest", "Returns the rest of a player.",
                "Returns the number of rounds, 0 if the player does not rest.", PlayersPromises::rest);
    }

    private static void newObject() {
        HillContest x = new HillContest();
        Check.same("playerCount", x.playerCount(), 0);
        Check.same("stonesOnHill", x.stonesOnHill(), 0);
        for (int cell = 0; cell < 25; cell++) {
            int number = cell;
            Check.same("height of " + cell, x.height(cell), 0);
            Check.fails("owner of " + cell, ELEMENT, () -> x.owner(number));
        }
        Check.same("the slope and the border", x.criticalSlope() + " " + x.isBorderOpen(), "3 false");
        Check.same("topples, avalanches", x.toppleTotal() + " " + x.avalancheCount(), "0 0");
        Check.same("largest, placed", x.largestAvalanche() + " " + x.placedTotal(), "0 0");
        Check.same("lost, taken", x.lostTotal() + " " + x.takenTotal(), "0 0");
        Check.fails("no player", INDEX, () -> x.hand(0));
        Check.fails("no change", STATE, x::undo);
        Check.fails("no snapshot", STATE, x::restore);
        Check.fails("no line", INDEX, () -> x.lineAt(0));
        Check.fails("no error", ELEMENT, x::errorPosition);
        Check.fails("no failure", ELEMENT, x::failedCommand);
        Check.yes("consistent", x.isConsistent());
    }

    private static void addPlayer() {
        HillContest x = new HillContest();
        for (int wrong : new int[] {0, 61, -60}) {
            Check.fails("addPlayer(" + wrong + ")", ARGUMENT, () -> x.addPlayer(wrong));
        }
        int[] hands = {60, 1, 59, 2};
        for (int player = 0; player < 4; player++) {
            Check.same("addPlayer(" + hands[player] + ")", x.addPlayer(hands[player]), player);
            Check.same("hand", x.hand(player), hands[player]);
            Check.same("rest", x.rest(player), 0);
        }
        Check.fails("a fifth", STATE, () -> x.addPlayer(1));
        Check.fails("a fifth without stones", ARGUMENT, () -> x.addPlayer(0));
        Check.same("four", x.playerCount(), 4);
        Check.same("undone", x.undo() + " " + x.playerCount(), "3 3");
        Check.same("again", x.addPlayer(3) + " " + x.hand(3), "3 3");
    }

    private static void drop() {
        HillContest x = Hills.withPlayers(12, 9);
        Check.same("two stones stay", x.drop(0, 6, 2), 0);
        Check.same("the third falls", x.drop(0, 6, 1), 1);
        Check.same("above", Hills.heights(x), "0 1 0 0 0/0 2 0 0 0/0 0 0 0 0/0 0 0 0 0/0 0 0 0 0");
        Check.same("all are the player's", Hills.owners(x), ".0.../.0.../...../...../.....");
        Check.same("another's drop", x.drop(1, 1, 2), 1);
        Check.same("falls to the left", Hills.heights(x), "1 2 0 0 0/0 2 0 0 0/0 0 0 0 0/0 0 0 0 0/0 0 0 0 0");
        Check.same("and takes the cell", Hills.owners(x), "11.../.0.../...../...../.....");
        Check.same("hands", x.hand(0) + " " + x.hand(1), "9 7");
        Check.same("placed", x.placedTotal(), 5);
        Check.fails("no such player", INDEX, () -> x.drop(2, 6, 1));
        Check.fails("no such cell", INDEX, () -> x.drop(0, 25, 1));
        Check.fails("no stones", ARGUMENT, () -> x.drop(0, 6, 0));
        Check.fails("ten stones", ARGUMENT, () -> x.drop(0, 6, 10));
        Check.fails("more than the hand", OPERATION, () -> x.drop(1, 24, 8));
        Check.same("a corner", x.drop(0, 24, 9), 6);
        Check.same("6 topples: a rest of 1", x.rest(0), 1);
        Check.fails("who rests can't drop", STATE, () -> x.drop(0, 12, 1));
        Check.same("the hand is empty", x.hand(0), 0);
    }

    private static void pile() {
        HillContest x = Hills.withPlayers(9);
        x.drop(0, 12, 2);
        Check.same("one on a player's two", x.pile(12, 1), 1);
        Check.same("falls above", Hills.heights(x), "0 0 0 0 0/0 0 1 0 0/0 0 2 0 0/0 0 0 0 0/0 0 0 0 0");
        Check.same("all is nobody's", Hills.owners(x), "...../...../...../...../.....");
        Check.same("nine", x.pile(20, 9), 6);
        Check.same("in the corner", Hills.heights(x), "0 0 0 0 0/0 0 1 0 0/1 0 2 0 0/2 0 0 0 0/4 2 0 0 0");
        Check.same("placed", x.placedTotal() + " " + x.stonesOnHill(), "12 12");
        Check.same("no hand, no rest", x.hand(0) + " " + x.rest(0), "7 0");
        Check.fails("no such cell", INDEX, () -> x.pile(-1, 1));
        Check.fails("no stones", ARGUMENT, () -> x.pile(0, 0));
        Check.fails("ten stones", ARGUMENT, () -> x.pile(0, 10));
        HillContest almost = Pasts.almostFull();
        Check.fails("to 301", STATE, () -> almost.pile(3, 4));
        Check.answers("to 300", () -> almost.pile(3, 3));
        Check.fails("to 301", STATE, () -> almost.pile(3, 1));
    }

    private static void take() {
        HillContest x = Hills.withPlayers(60, 1);
        x.drop(0, 0, 2);
        Check.same("one of two", x.take(0, 0), 0);
        Check.same("is in the hand", x.hand(0) + " " + x.height(0) + " " + x.owner(0), "59 1 0");
        Check.fails("another's", OPERATION, () -> x.take(1, 0));
        Check.same("the last", x.take(0, 0), 0);
        Check.fails("none is left", ELEMENT, () -> x.take(0, 0));
        Check.fails("nobody's cell now", ELEMENT, () -> x.owner(0));
        x.pile(0, 1);
        Check.fails("nobody's", OPERATION, () -> x.take(0, 0));
        x.drop(0, 0, 1);
        x.take(0, 0);
        x.take(0, 0);
        Check.same("more than 60", x.hand(0) + " " + x.takenTotal(), "61 4");
        Check.fails("no such player", INDEX, () -> x.take(2, 0));
        Check.fails("no such cell", INDEX, () -> x.take(0, 25));
        Hills.pileTo(x, 1, 2, 0, 2);
        x.drop(0, 5, 2);
        x.pile(0, 2);
        Check.same("beside a steep corner", Hills.heights(x), "4 2 0 0 0/2 0 0 0 0/0 0 0 0 0/0 0 0 0 0/0 0 0 0 0");
        Check.same("which topples then", x.take(0, 5), 1);
        Check.same("at rest", Hills.heights(x), "3 2 0 0 0/2 0 0 0 0/0 0 0 0 0/0 0 0 0 0/0 0 0 0 0");
        Check.fails("nobody's stone fell there", ELEMENT, () -> x.owner(5));
    }

    private static void skip() {
        HillContest x = Hills.withPlayers(60, 60);
        Check.same("nobody rests", x.skip(), 0);
        x.pile(24, 9);
        x.drop(0, 24, 9);
        x.drop(1, 0, 7);
        Check.same("both rest", x.rest(0) + " " + x.rest(1), "2 1");
        Check.same("one rests on", x.skip(), 1);
        Check.same("by one less", x.rest(0) + " " + x.rest(1), "1 0");
        Check.same("none rests", x.skip(), 0);
        Check.same("none below 0", x.skip(), 0);
        Check.same("rests", x.rest(0) + " " + x.rest(1), "0 0");
    }

    private static void playerCount() {
        HillContest x = new HillContest();
        for (int players = 0; players < 4; players++) {
            Check.same("playerCount", x.playerCount(), players);
            x.addPlayer(1);
        }
        Check.same("playerCount", x.playerCount(), 4);
        x.undo();
        Check.same("one undone", x.playerCount(), 3);
    }

    private static void hand() {
        HillContest x = Hills.withPlayers(10, 20);
        Check.same("at first", x.hand(0) + " " + x.hand(1), "10 20");
        x.drop(1, 4, 2);
        Check.same("two dropped", x.hand(0) + " " + x.hand(1), "10 18");
        x.take(1, 4);
        Check.same("one taken", x.hand(0) + " " + x.hand(1), "10 19");
        Check.fails("hand(2)", INDEX, () -> x.hand(2));
        Check.fails("hand(-1)", INDEX, () -> x.hand(-1));
    }

    private static void rest() {
        HillContest x = Hills.withPlayers(60, 60);
        Check.same("at first", x.rest(0), 0);
        x.drop(0, 12, 9);
        Check.same("6 topples", x.toppleTotal() + " " + x.rest(0), "6 1");
        x.drop(1, 0, 1);
        Check.same("another's drop", x.rest(0), 0);
        x.drop(0, 24, 6);
        Check.same("3 topples", x.toppleTotal() + " " + x.rest(0), "9 0");
        Check.fails("rest(2)", INDEX, () -> x.rest(2));
        Check.fails("rest(-1)", INDEX, () -> x.rest(-1));
    }
}
