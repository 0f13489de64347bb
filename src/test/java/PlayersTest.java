import java.util.NoSuchElementException;

/** Promises 1 to 9: a new object, players and their stones. */
final class PlayersTest {
    private static final String EMPTY = "0 0 0 0 0/0 0 0 0 0/0 0 0 0 0/0 0 0 0 0/0 0 0 0 0";
    private static final String NOBODYS = "...../...../...../...../.....";

    public static void main(String[] args) {
        newObject();
        addPlayer();
        drop();
        dropRests();
        dropFails();
        dropFailsInOrder();
        pile();
        pileFails();
        take();
        takeTopples();
        takeFails();
        skip();
        numbersOfPlayers();
        Check.end();
    }

    private static void newObject() {
        HillContest x = new HillContest();
        Check.same("P1 everything", Hills.everything(x),
                EMPTY + " " + NOBODYS + " slope 3 open false totals 0 0 0 0 0 0");
        Check.same("P1 playerCount", x.playerCount(), 0);
        Check.fails("P1 errorPosition", NoSuchElementException.class, x::errorPosition);
        Check.fails("P1 failedCommand", NoSuchElementException.class, x::failedCommand);
        Check.fails("P1 undo", IllegalStateException.class, x::undo);
        Check.fails("P1 restore", IllegalStateException.class, x::restore);
        Check.fails("P1 lineAt(0)", IndexOutOfBoundsException.class, () -> x.lineAt(0));
        Check.same("P1 command text is empty", x.append('s'), 1);
        HillContest other = new HillContest();
        x.pile(3, 2);
        Check.same("P1 objects are apart", other.height(3), 0);
    }

    private static void addPlayer() {
        HillContest x = new HillContest();
        Check.fails("P2 addPlayer(0)", IllegalArgumentException.class, () -> x.addPlayer(0));
        Check.fails("P2 addPlayer(61)", IllegalArgumentException.class, () -> x.addPlayer(61));
        Check.fails("P2 addPlayer(-1)", IllegalArgumentException.class, () -> x.addPlayer(-1));
        Check.fails("P2 addPlayer(min)", IllegalArgumentException.class,
                () -> x.addPlayer(Integer.MIN_VALUE));
        Check.fails("P2 addPlayer(max)", IllegalArgumentException.class,
                () -> x.addPlayer(Integer.MAX_VALUE));
        Check.same("P2 nobody was added", x.playerCount(), 0);
        Check.same("P2 addPlayer(1)", x.addPlayer(1), 0);
        Check.same("P2 addPlayer(60)", x.addPlayer(60), 1);
        Check.same("P2 addPlayer(30)", x.addPlayer(30), 2);
        Check.same("P2 addPlayer(2)", x.addPlayer(2), 3);
        Check.same("P2 hands", x.hand(0) + " " + x.hand(1) + " " + x.hand(2) + " " + x.hand(3),
                "1 60 30 2");
        Check.fails("P2 a fifth player", IllegalStateException.class, () -> x.addPlayer(5));
        Check.fails("P2 argument comes first", IllegalArgumentException.class, () -> x.addPlayer(0));
        Check.same("P2 four players", x.playerCount(), 4);
    }

    private static void drop() {
        HillContest x = Hills.withPlayers(60, 60);
        Check.same("P3 drop(0, 12, 2)", x.drop(0, 12, 2), 0);
        Check.same("P3 height", x.height(12), 2);
        Check.same("P3 owner", x.owner(12), 0);
        Check.same("P3 hand", x.hand(0), 58);
        Check.same("P3 drop(0, 12, 1)", x.drop(0, 12, 1), 1);
        Check.same("P3 heights", Hills.heights(x), "0 0 0 0 0/0 0 1 0 0/0 0 2 0 0/0 0 0 0 0/0 0 0 0 0");
        Check.same("P3 drop(1, 12, 9)", x.drop(1, 12, 9), 7);
        Check.same("P3 owners", Hills.owners(x), "...../..1../.111./..1../.....");
        Check.same("P3 heights", Hills.heights(x), "0 0 0 0 0/0 0 2 0 0/0 2 4 2 0/0 0 2 0 0/0 0 0 0 0");
        x.drop(0, 0, 1);
        Check.same("P3 the cell of another player", x.drop(1, 0, 1), 0);
        Check.same("P3 belongs to the dropper", x.owner(0), 1);
    }

    private static void dropRests() {
        HillContest x = Hills.withPlayers(60, 60, 60);
        Check.same("P3 drop(0, 12, 9)", x.drop(0, 12, 9), 6);
        Check.same("P3 6 topples are a rest of 1", x.rest(0), 1);
        HillContest y = Hills.withPlayers(60, 60, 60);
        y.pile(24, 9);
        Check.same("P3 drop(0, 24, 9)", y.drop(0, 24, 9), 13);
        Check.same("P3 13 topples are a rest of 3", y.rest(0), 3);
        Check.same("P3 drop(1, 0, 1)", y.drop(1, 0, 1), 0);
        Check.same("P3 another's drop shortens the rest", y.rest(0), 2);
        Check.fails("P3 a drop that fails", UnsupportedOperationException.class,
                () -> Hills.withPlayers(1).drop(0, 0, 2));
        Check.fails("P3 a resting player", IllegalStateException.class, () -> y.drop(0, 5, 1));
        Check.same("P3 a failed drop shortens nothing", y.rest(0), 2);
        y.pile(4, 1);
        Check.same("P3 a pile shortens nothing", y.rest(0), 2);
        y.take(1, 0);
        Check.same("P3 a take shortens nothing", y.rest(0), 2);
        y.drop(1, 4, 1);
        y.drop(2, 4, 1);
        Check.same("P3 rested", y.rest(0), 0);
        Check.same("P3 may drop again", y.drop(0, 0, 1), 0);
        HillContest z = Hills.withPlayers(60, 60);
        Check.same("P3 3 topples", z.drop(0, 2, 5), 3);
        Check.same("P3 3 topples are no rest", z.rest(0), 0);
        restOfZeroAndFour();
    }

    private static void restOfZeroAndFour() {
        HillContest x = Hills.withPlayers(60);
        x.pile(12, 6);
        Check.same("P3 topples of a pile change no rest", x.rest(0), 0);
        HillContest y = Hills.withPlayers(60);
        Check.same("P3 drop(0, 12, 6)", y.drop(0, 12, 6), 4);
        Check.same("P3 4 topples are a rest of 1", y.rest(0), 1);
        y.skip();
        Check.same("P3 a drop without topples", y.drop(0, 0, 1), 0);
        Check.same("P3 gives no rest", y.rest(0), 0);
    }

    private static void dropFails() {
        HillContest x = Hills.withPlayers(9, 60);
        Class<IndexOutOfBoundsException> index = IndexOutOfBoundsException.class;
        Check.fails("P3 drop(-1, 0, 1)", index, () -> x.drop(-1, 0, 1));
        Check.fails("P3 drop(2, 0, 1)", index, () -> x.drop(2, 0, 1));
        Check.fails("P3 drop(min, 0, 1)", index, () -> x.drop(Integer.MIN_VALUE, 0, 1));
        Check.fails("P3 drop(0, -1, 1)", index, () -> x.drop(0, -1, 1));
        Check.fails("P3 drop(0, 25, 1)", index, () -> x.drop(0, 25, 1));
        Check.fails("P3 drop(0, max, 1)", index, () -> x.drop(0, Integer.MAX_VALUE, 1));
        Check.fails("P3 drop(0, 0, 0)", IllegalArgumentException.class, () -> x.drop(0, 0, 0));
        Check.fails("P3 drop(0, 0, 10)", IllegalArgumentException.class, () -> x.drop(0, 0, 10));
        Check.fails("P3 drop(0, 0, max)", IllegalArgumentException.class,
                () -> x.drop(0, 0, Integer.MAX_VALUE));
        x.drop(0, 0, 1);
        Check.fails("P3 more than the hand", UnsupportedOperationException.class,
                () -> x.drop(0, 0, 9));
        Check.same("P3 nothing has changed", x.height(0) + " " + x.hand(0) + " " + x.placedTotal(), "1 8 1");
        Check.same("P3 the whole hand", x.drop(0, 7, 8), 5);
        Check.same("P3 is empty", x.hand(0), 0);
    }

    private static void dropFailsInOrder() {
        HillContest x = Hills.withPlayers(9, 1);
        x.drop(0, 12, 9);
        Check.same("P3 rests", x.rest(0), 1);
        Check.fails("P3 index before argument", IndexOutOfBoundsException.class, () -> x.drop(0, 25, 0));
        Check.fails("P3 index before state", IndexOutOfBoundsException.class, () -> x.drop(0, -1, 1));
        Check.fails("P3 argument before state", IllegalArgumentException.class, () -> x.drop(0, 1, 10));
        Check.fails("P3 state before operation", IllegalStateException.class, () -> x.drop(0, 1, 1));
        Check.fails("P3 argument before operation", IllegalArgumentException.class,
                () -> x.drop(1, 1, 10));
        HillContest full = fullHill();
        full.addPlayer(5);
        Check.fails("P3 a full hill", IllegalStateException.class, () -> full.drop(0, 0, 1));
        Check.fails("P3 a full hill before the hand", IllegalStateException.class,
                () -> full.drop(0, 0, 9));
        Check.fails("P3 argument before a full hill", IllegalArgumentException.class,
                () -> full.drop(0, 0, 0));
        Check.same("P3 the hill is as it was", full.stonesOnHill() + " " + full.hand(0), "300 5");
        HillContest almost = almostFullHill();
        almost.addPlayer(5);
        Check.fails("P3 301 stones", IllegalStateException.class, () -> almost.drop(0, 0, 4));
        almost.drop(0, 0, 3);
        Check.same("P3 300 stones", almost.stonesOnHill(), 300);
    }

    /** 297 stones, piled by nines all over the hill. */
    private static HillContest almostFullHill() {
        HillContest x = new HillContest();
        for (int i = 0; i < 33; i++) {
            x.pile(7 * i % 25, 9);
        }
        Check.same("an almost full hill", x.stonesOnHill(), 297);
        return x;
    }

    private static HillContest fullHill() {
        HillContest x = almostFullHill();
        x.pile(3, 3);
        return x;
    }

    private static void pile() {
        HillContest x = Hills.withPlayers(60);
        Check.same("P4 pile(0, 9)", x.pile(0, 9), 6);
        Check.same("P4 heights", Hills.heights(x), "4 2 1 0 0/2 0 0 0 0/0 0 0 0 0/0 0 0 0 0/0 0 0 0 0");
        Check.same("P4 belongs to nobody", Hills.owners(x), "...../...../...../...../.....");
        x.drop(0, 24, 2);
        Check.same("P4 pile on a player's cell", x.pile(24, 1), 1);
        Check.same("P4 takes it from the player", Hills.owners(x), "...../...../...../...../.....");
        Check.same("P4 the hand is not touched", x.hand(0), 58);
        HillContest y = Hills.withPlayers(60);
        y.drop(0, 19, 1);
        y.pile(23, 1);
        Check.same("P4 pile beside a player's cell", y.pile(24, 4), 1);
        Check.same("P4 nobody's stone falls there", y.height(19), 2);
        Check.fails("P4 and takes it from the player", NoSuchElementException.class, () -> y.owner(19));
    }

    private static void pileFails() {
        HillContest x = new HillContest();
        Check.fails("P4 pile(-1, 1)", IndexOutOfBoundsException.class, () -> x.pile(-1, 1));
        Check.fails("P4 pile(25, 1)", IndexOutOfBoundsException.class, () -> x.pile(25, 1));
        Check.fails("P4 pile(25, 0)", IndexOutOfBoundsException.class, () -> x.pile(25, 0));
        Check.fails("P4 pile(0, 0)", IllegalArgumentException.class, () -> x.pile(0, 0));
        Check.fails("P4 pile(0, 10)", IllegalArgumentException.class, () -> x.pile(0, 10));
        Check.fails("P4 pile(0, -3)", IllegalArgumentException.class, () -> x.pile(0, -3));
        HillContest almost = almostFullHill();
        Check.fails("P4 301 stones", IllegalStateException.class, () -> almost.pile(3, 4));
        Check.fails("P4 argument first", IllegalArgumentException.class, () -> almost.pile(3, 10));
        Check.same("P4 300 stones", almost.pile(3, 3), 3);
        Check.fails("P4 one more", IllegalStateException.class, () -> almost.pile(3, 1));
        Check.fails("P4 index first", IndexOutOfBoundsException.class, () -> almost.pile(25, 1));
        Check.same("P4 nothing has changed", almost.placedTotal(), 300);
    }

    private static void take() {
        HillContest x = Hills.withPlayers(60, 5);
        x.drop(0, 7, 2);
        Check.same("P5 take(0, 7)", x.take(0, 7), 0);
        Check.same("P5 hand and height", x.hand(0) + " " + x.height(7) + " " + x.owner(7), "59 1 0");
        Check.same("P5 the last stone", x.take(0, 7), 0);
        Check.same("P5 hand and height", x.hand(0) + " " + x.height(7), "60 0");
        Check.fails("P5 the cell is nobody's", NoSuchElementException.class, () -> x.owner(7));
        x.pile(7, 1);
        x.drop(0, 7, 1);
        x.take(0, 7);
        x.take(0, 7);
        Check.same("P5 a hand of more than 60", x.hand(0), 61);
        x.drop(0, 12, 9);
        Check.same("P5 a resting player", x.rest(0), 1);
        Check.same("P5 may take", x.take(0, 12), 0);
        Check.same("P5 and rests on", x.rest(0), 1);
    }

    private static void takeTopples() {
        HillContest y = Hills.withPlayers(60);
        y.drop(0, 0, 2);
        y.drop(0, 5, 2);
        y.drop(0, 1, 2);
        y.drop(0, 0, 2);
        Check.same("P5 heights before", Hills.heights(y), "4 2 0 0 0/2 0 0 0 0/0 0 0 0 0/0 0 0 0 0/0 0 0 0 0");
        Check.same("P5 take(0, 5) makes the corner topple", y.take(0, 5), 1);
        Check.same("P5 heights after", Hills.heights(y), "3 2 0 0 0/2 0 0 0 0/0 0 0 0 0/0 0 0 0 0/0 0 0 0 0");
        Check.same("P5 its topples give no rest", y.rest(0), 0);
        Check.same("P5 its topples count", y.toppleTotal() + " " + y.avalancheCount(), "1 1");
    }

    private static void takeFails() {
        HillContest x = Hills.withPlayers(60, 5);
        x.drop(0, 7, 2);
        x.pile(20, 1);
        Class<IndexOutOfBoundsException> index = IndexOutOfBoundsException.class;
        Check.fails("P5 take(2, 7)", index, () -> x.take(2, 7));
        Check.fails("P5 take(-1, 7)", index, () -> x.take(-1, 7));
        Check.fails("P5 take(-1, 20), nobody's", index, () -> x.take(-1, 20));
        Check.fails("P5 take(0, 25)", index, () -> x.take(0, 25));
        Check.fails("P5 take(0, -1)", index, () -> x.take(0, -1));
        Check.fails("P5 take(2, 0)", index, () -> x.take(2, 0));
        Check.fails("P5 no stones", NoSuchElementException.class, () -> x.take(0, 0));
        Check.fails("P5 another's", UnsupportedOperationException.class, () -> x.take(1, 7));
        Check.fails("P5 nobody's", UnsupportedOperationException.class, () -> x.take(0, 20));
        Check.same("P5 nothing has changed", x.takenTotal() + " " + x.hand(0) + " " + x.hand(1), "0 58 5");
    }

    private static void skip() {
        HillContest x = Hills.withPlayers(60, 60, 60);
        Check.same("P6 nobody rests", x.skip(), 0);
        x.drop(0, 12, 9);
        x.drop(1, 24, 9);
        Check.same("P6 rests", x.rest(0) + " " + x.rest(1) + " " + x.rest(2), "0 1 0");
        x.drop(2, 12, 9);
        Check.same("P6 rests", x.rest(0) + " " + x.rest(1) + " " + x.rest(2), "0 0 3");
        HillContest y = Hills.withPlayers(60, 60);
        y.pile(24, 9);
        y.drop(0, 24, 9);
        y.drop(1, 2, 7);
        Check.same("P6 rests", y.rest(0) + " " + y.rest(1), "2 1");
        Check.same("P6 skip", y.skip(), 1);
        Check.same("P6 rests", y.rest(0) + " " + y.rest(1), "1 0");
        Check.same("P6 skip", y.skip(), 0);
        Check.same("P6 skip", y.skip(), 0);
        Check.same("P6 rests", y.rest(0) + " " + y.rest(1), "0 0");
        HillContest z = Hills.withPlayers(60, 60);
        z.pile(24, 9);
        z.drop(0, 24, 9);
        z.pile(0, 9);
        z.drop(1, 0, 9);
        Check.same("P6 both rest", z.rest(0) + " " + z.rest(1), "2 3");
        Check.same("P6 skip", z.skip(), 2);
        Check.same("P6 both rest", z.rest(0) + " " + z.rest(1), "1 2");
        Check.same("P6 skip", z.skip(), 1);
        Check.same("P6 skip without players", new HillContest().skip(), 0);
    }

    private static void numbersOfPlayers() {
        HillContest x = new HillContest();
        Check.same("P7 no player", x.playerCount(), 0);
        Check.fails("P8 hand(0)", IndexOutOfBoundsException.class, () -> x.hand(0));
        Check.fails("P9 rest(0)", IndexOutOfBoundsException.class, () -> x.rest(0));
        x.addPlayer(7);
        x.addPlayer(8);
        Check.same("P7 two players", x.playerCount(), 2);
        Check.same("P8 hand(1)", x.hand(1), 8);
        Check.same("P9 rest(1)", x.rest(1), 0);
        Check.fails("P8 hand(2)", IndexOutOfBoundsException.class, () -> x.hand(2));
        Check.fails("P8 hand(-1)", IndexOutOfBoundsException.class, () -> x.hand(-1));
        Check.fails("P8 hand(max)", IndexOutOfBoundsException.class, () -> x.hand(Integer.MAX_VALUE));
        Check.fails("P9 rest(2)", IndexOutOfBoundsException.class, () -> x.rest(2));
        Check.fails("P9 rest(-1)", IndexOutOfBoundsException.class, () -> x.rest(-1));
        Check.fails("P9 rest(min)", IndexOutOfBoundsException.class, () -> x.rest(Integer.MIN_VALUE));
    }
}
