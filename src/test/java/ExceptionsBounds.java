import java.util.List;
import java.util.NoSuchElementException;
import java.util.function.Supplier;

/** The term "Exceptions": refused calls of each kind change nothing; of several the first is thrown. */
final class ExceptionsBounds {
    private static final Class<IndexOutOfBoundsException> INDEX = IndexOutOfBoundsException.class;
    private static final Class<IllegalArgumentException> ARGUMENT = IllegalArgumentException.class;
    private static final Class<IllegalStateException> STATE = IllegalStateException.class;
    private static final Class<NoSuchElementException> ELEMENT = NoSuchElementException.class;
    private static final Class<ArithmeticException> ARITHMETIC = ArithmeticException.class;
    private static final Class<UnsupportedOperationException> OPERATION =
            UnsupportedOperationException.class;

    private ExceptionsBounds() {}

    static void all() {
        Sentence.holds("Exceptions", "A method that throws an exception changes nothing, except that run"
                + " clears the command text and sets the error position or the failed command",
                ExceptionsBounds::changeNothing);
        Sentence.holds("Exceptions", "If several exceptions apply, the exception listed first is thrown",
                ExceptionsBounds::firstOfSeveral);
    }

    private static void changeNothing() {
        for (Supplier<HillContest> past : pasts()) {
            anywhere(past);
        }
        inBusy();
        inFull();
        runs();
    }

    private static List<Supplier<HillContest>> pasts() {
        return List.of(Pasts::fresh, Pasts::played, Pasts::busy, Pasts::full);
    }

    /** Refused in each state; no player has the number 4. */
    private static void anywhere(Supplier<HillContest> past) {
        Twins.refuse("addPlayer(61)", ARGUMENT, past, x -> x.addPlayer(61));
        Twins.refuse("drop(4, 0, 1)", INDEX, past, x -> x.drop(4, 0, 1));
        Twins.refuse("pile(25, 1)", INDEX, past, x -> x.pile(25, 1));
        Twins.refuse("pile(0, 10)", ARGUMENT, past, x -> x.pile(0, 10));
        Twins.refuse("take(4, 24)", INDEX, past, x -> x.take(4, 24));
        Twins.refuse("hand(4)", INDEX, past, x -> x.hand(4));
        Twins.refuse("rest(4)", INDEX, past, x -> x.rest(4));
        Twins.refuse("setSlope(7)", ARGUMENT, past, x -> x.setSlope(7));
        Twins.refuse("height(25)", INDEX, past, x -> x.height(25));
        Twins.refuse("owner(25)", INDEX, past, x -> x.owner(25));
        Twins.refuse("owner(0)", ELEMENT, past, x -> x.owner(0));
        Twins.refuse("steepness(25)", INDEX, past, x -> x.steepness(25));
        Twins.refuse("lowestNeighbour(25)", INDEX, past, x -> x.lowestNeighbour(25));
        Twins.refuse("topplesIf(25, 1)", INDEX, past, x -> x.topplesIf(25, 1));
        Twins.refuse("topplesIf(0, 10)", ARGUMENT, past, x -> x.topplesIf(0, 10));
        Twins.refuse("topplesIfByScan(25, 1)", INDEX, past, x -> x.topplesIfByScan(25, 1));
        Twins.refuse("topplesIfByScan(0, 10)", ARGUMENT, past, x -> x.topplesIfByScan(0, 10));
        Twins.refuse("isPeak(25)", INDEX, past, x -> x.isPeak(25));
        Twins.refuse("peakAt(13)", ELEMENT, past, x -> x.peakAt(13));
        Twins.refuse("crowns(4)", INDEX, past, x -> x.crowns(4));
        Twins.refuse("score(4)", INDEX, past, x -> x.score(4));
        Twins.refuse("playerAtRank(4)", ELEMENT, past, x -> x.playerAtRank(4));
        Twins.refuse("crownShare(4)", INDEX, past, x -> x.crownShare(4));
        Twins.refuse("append of 31", ARGUMENT, past, x -> x.append((char) 31));
        Twins.refuse("describeRow(5)", INDEX, past, x -> x.describeRow(5));
        Twins.refuse("lineAt(12)", INDEX, past, x -> x.lineAt(12));
    }

    private static void inBusy() {
        Twins.refuse("drop(0, 25, 1)", INDEX, Pasts::busy, x -> x.drop(0, 25, 1));
        Twins.refuse("drop(1, 0, 10)", ARGUMENT, Pasts::busy, x -> x.drop(1, 0, 10));
        Twins.refuse("drop of a resting player", STATE, Pasts::busy, x -> x.drop(0, 0, 1));
        Twins.refuse("drop of too many", OPERATION, Pasts::busy, x -> x.drop(2, 0, 8));
        Twins.refuse("take(0, 25)", INDEX, Pasts::busy, x -> x.take(0, 25));
        Twins.refuse("take of nothing", ELEMENT, Pasts::busy, x -> x.take(0, 0));
        Twins.refuse("take of another's", OPERATION, Pasts::busy, x -> x.take(0, 12));
        Twins.refuse("owner of nobody's", ELEMENT, Pasts::busy, x -> x.owner(8));
    }

    private static void inFull() {
        Twins.refuse("a fifth player", STATE, Pasts::full, x -> x.addPlayer(60));
        Twins.refuse("drop on a full hill", STATE, Pasts::full, x -> x.drop(0, 0, 1));
        Twins.refuse("pile on a full hill", STATE, Pasts::full, x -> x.pile(0, 1));
        Twins.refuse("take of nobody's", OPERATION, Pasts::full, x -> x.take(0, 0));
        Twins.refuse("append to a full text", STATE, Pasts::full, x -> x.append('s'));
        Twins.refuse("errorPosition", ELEMENT, Pasts::full, HillContest::errorPosition);
        Twins.refuse("failedCommand", ELEMENT, Pasts::full, HillContest::failedCommand);
        Twins.refuse("restore", STATE, Pasts::full, HillContest::restore);
        Twins.refuse("undo", STATE, Pasts::fresh, HillContest::undo);
        Twins.refuse("meanAvalanche", ARITHMETIC, Pasts::fresh, HillContest::meanAvalanche);
        Twins.refuse("crownShare", ARITHMETIC, () -> Hills.withPlayers(1), x -> x.crownShare(0));
    }

    private static void runs() {
        String none = "NoSuchElementException";
        Twins.refuseRun("", ARGUMENT, Pasts::fresh, "0 " + none);
        Twins.refuseRun("skip;", ARGUMENT, Pasts::played, "5 " + none);
        Twins.refuseRun("pile 0 9;open;slope 2;pile 12 10", ARGUMENT, Pasts::played, "31 " + none);
        Twins.refuseRun("player 0", STATE, Pasts::fresh, none + " 0");
        Twins.refuseRun("pile 0 9;close;slope 2;drop 1 0 9;skip;take 2 24", STATE, Pasts::played, none + " 5");
        Twins.refuseRun("player 9;drop 3 12 9;drop 3 0 1", STATE, Pasts::played, none + " 2");
    }

    private static void firstOfSeveral() {
        Twins.refuse("addPlayer: argument, state", ARGUMENT, Pasts::full, x -> x.addPlayer(0));
        Twins.refuse("addPlayer: argument, state", ARGUMENT, Pasts::full, x -> x.addPlayer(61));
        ofDrop();
        ofPileAndTake();
        Twins.refuse("owner: index, element", INDEX, Pasts::busy, x -> x.owner(-1));
        Twins.refuse("topplesIf: index, argument", INDEX, Pasts::busy, x -> x.topplesIf(25, 0));
        Twins.refuse("topplesIf: index, argument", INDEX, Pasts::busy, x -> x.topplesIf(-1, 10));
        Twins.refuse("topplesIfByScan: index, argument", INDEX, Pasts::busy, x -> x.topplesIfByScan(25, 0));
        Twins.refuse("topplesIfByScan: index, argument", INDEX, Pasts::busy, x -> x.topplesIfByScan(-1, 10));
        Twins.refuse("crownShare: index, arithmetic", INDEX, Pasts::fresh, x -> x.crownShare(0));
        Twins.refuse("crownShare: index, arithmetic", INDEX, () -> Hills.withPlayers(1), x -> x.crownShare(1));
        Twins.refuse("append: argument, state", ARGUMENT, Pasts::full, x -> x.append((char) 31));
        Twins.refuse("append: argument, state", ARGUMENT, Pasts::full, x -> x.append((char) 127));
        Twins.refuseRun("slope 9;", ARGUMENT, Pasts::played, "8 NoSuchElementException");
    }

    private static void ofDrop() {
        Twins.refuse("index, argument", INDEX, Pasts::busy, x -> x.drop(3, 0, 0));
        Twins.refuse("index, argument", INDEX, Pasts::busy, x -> x.drop(1, 25, 10));
        Twins.refuse("index, argument, rest", INDEX, Pasts::busy, x -> x.drop(0, -1, 0));
        Twins.refuse("index, rest", INDEX, Pasts::busy, x -> x.drop(0, 25, 1));
        Twins.refuse("index, full hill", INDEX, Pasts::full, x -> x.drop(4, 0, 1));
        Twins.refuse("index, full hill", INDEX, Pasts::full, x -> x.drop(0, 25, 1));
        Twins.refuse("index, full hill, hand", INDEX, Pasts::full, x -> x.drop(3, -1, 9));
        Twins.refuse("index, hand", INDEX, Pasts::busy, x -> x.drop(2, 25, 9));
        Twins.refuse("argument, rest", ARGUMENT, Pasts::busy, x -> x.drop(0, 0, 0));
        Twins.refuse("argument, rest", ARGUMENT, Pasts::busy, x -> x.drop(0, 0, 10));
        Twins.refuse("argument, full hill", ARGUMENT, Pasts::full, x -> x.drop(0, 0, 10));
        Twins.refuse("argument, hand", ARGUMENT, Pasts::busy, x -> x.drop(2, 0, 10));
        Twins.refuse("argument, full hill, hand", ARGUMENT, Pasts::full, x -> x.drop(3, 0, 10));
        Twins.refuse("full hill, hand", STATE, Pasts::full, x -> x.drop(3, 0, 2));
        Twins.refuse("rest, hand", STATE, ExceptionsBounds::restingWithoutStones, x -> x.drop(0, 0, 1));
        Twins.refuse("argument, rest, hand", ARGUMENT, ExceptionsBounds::restingWithoutStones, x -> x.drop(0, 0, 10));
    }

    private static HillContest restingWithoutStones() {
        HillContest x = Hills.withPlayers(9, 9);
        x.drop(0, 12, 9);
        Check.same("rest and hand", x.rest(0) + " " + x.hand(0), "1 0");
        return x;
    }

    private static void ofPileAndTake() {
        Twins.refuse("pile: index, argument", INDEX, Pasts::busy, x -> x.pile(-1, 0));
        Twins.refuse("pile: index, argument", INDEX, Pasts::busy, x -> x.pile(25, 10));
        Twins.refuse("pile: index, full hill", INDEX, Pasts::full, x -> x.pile(25, 1));
        Twins.refuse("pile: argument, full hill", ARGUMENT, Pasts::full, x -> x.pile(0, 10));
        Twins.refuse("pile: argument, no more stones", ARGUMENT, Pasts::full, x -> x.pile(0, 0));
        Twins.refuse("take: no player, no stones", INDEX, Pasts::busy, x -> x.take(3, 0));
        Twins.refuse("take: no player, nobody's cell", INDEX, Pasts::busy, x -> x.take(-1, 8));
        Twins.refuse("take: no player, no cell", INDEX, Pasts::busy, x -> x.take(3, 25));
        Twins.refuse("take: no stones, nobody's cell", ELEMENT, Pasts::busy, x -> x.take(1, 0));
    }
}
