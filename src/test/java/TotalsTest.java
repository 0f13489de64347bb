/** Promises 30 to 35 and 42: totals. */
final class TotalsTest {
    private static final Class<ArithmeticException> ARITHMETIC = ArithmeticException.class;

    public static void main(String[] args) {
        none();
        topplesAndAvalanches();
        avalanchesOfARun();
        stones();
        failuresCountNothing();
        tries();
        meanAvalanche();
        Check.end();
    }

    /** Topples, avalanches, largest; placed, lost, taken. */
    private static String totals(HillContest contest) {
        return contest.toppleTotal() + " " + contest.avalancheCount() + " " + contest.largestAvalanche()
                + "; " + contest.placedTotal() + " " + contest.lostTotal() + " " + contest.takenTotal();
    }

    private static void none() {
        HillContest x = Hills.withPlayers(60);
        Check.same("P30 to P35 initially", totals(x), "0 0 0; 0 0 0");
        x.drop(0, 12, 2);
        Check.same("P31 P32 no topple is no avalanche", totals(x), "0 0 0; 2 0 0");
        x.setSlope(4);
        x.setBorder(true);
        x.skip();
        Check.same("P31 P32 no topple is no avalanche", totals(x), "0 0 0; 2 0 0");
    }

    private static void topplesAndAvalanches() {
        HillContest x = Hills.withPlayers(60);
        x.drop(0, 12, 9);
        Check.same("P30 P31 P32 an avalanche", totals(x), "6 1 6; 9 0 0");
        x.pile(0, 3);
        Check.same("P30 P31 P32 a smaller one", totals(x), "7 2 6; 12 0 0");
        x.pile(24, 9);
        Check.same("P30 P31 P32 another one", totals(x), "13 3 6; 21 0 0");
        x.setSlope(2);
        Check.same("P31 one more", x.avalancheCount(), 4);
        Check.yes("P30 its topples", x.toppleTotal() > 13);
        Check.same("P32 the largest", x.largestAvalanche(), Math.max(6, x.toppleTotal() - 13));
        int before = x.toppleTotal();
        x.setBorder(true);
        Check.same("P31 the border's too", x.avalancheCount(), 5);
        Check.yes("P30 its topples", x.toppleTotal() > before);
    }

    private static void avalanchesOfARun() {
        HillContest x = Hills.withPlayers(60);
        Hills.runText(x, "drop 0 12 9;skip;pile 0 3;pile 24 1;slope 2");
        Check.same("P31 each command has its own", x.avalancheCount(), 3);
        Check.same("P34 none is lost", totals(x).substring(totals(x).indexOf(';')), "; 13 0 0");
        HillContest y = Hills.withPlayers(60);
        y.drop(0, 12, 9);
        y.skip();
        y.pile(0, 3);
        y.pile(24, 1);
        y.setSlope(2);
        Check.same("P30 to P35 like single calls", totals(x), totals(y));
        x.undo();
        Check.same("P30 to P35 undone", totals(x), "0 0 0; 0 0 0");
    }

    private static void stones() {
        HillContest x = Hills.withPlayers(60, 60);
        x.setSlope(2);
        x.setBorder(true);
        x.drop(0, 12, 1);
        x.drop(1, 0, 2);
        Check.same("P33 dropped", x.placedTotal(), 3);
        x.pile(24, 9);
        Check.same("P33 dropped and piled", x.placedTotal(), 12);
        Check.same("P34 lost", x.lostTotal(), 6);
        Check.same("P35 none taken", x.takenTotal(), 0);
        x.take(0, 12);
        Check.same("P35 one taken", x.takenTotal(), 1);
        x.take(1, 1);
        Check.same("P35 two taken", x.takenTotal(), 2);
        Check.same("P33 what is taken was placed", x.placedTotal(), 12);
        Check.same("P34 what is taken is not lost", x.lostTotal(), 6);
        x.drop(0, 12, 1);
        Check.same("P33 placed again", x.placedTotal(), 13);
    }

    private static void failuresCountNothing() {
        HillContest x = Hills.withPlayers(3);
        x.drop(0, 12, 2);
        String before = Hills.everything(x);
        Check.fails("drop", UnsupportedOperationException.class, () -> x.drop(0, 12, 9));
        Check.fails("pile", IndexOutOfBoundsException.class, () -> x.pile(25, 9));
        Check.fails("take", java.util.NoSuchElementException.class, () -> x.take(0, 0));
        Check.fails("run", IllegalStateException.class, () -> Hills.runText(x, "pile 12 9;take 0 0"));
        Check.same("P30 to P35 a failure counts nothing", Hills.everything(x), before);
    }

    private static void tries() {
        HillContest x = new HillContest();
        x.setBorder(true);
        x.topplesIf(0, 9);
        x.topplesIfByScan(0, 9);
        Check.yes("P43", x.isConsistent());
        Check.same("P30 to P35 a try counts nothing", totals(x), "0 0 0; 0 0 0");
    }

    private static void meanAvalanche() {
        HillContest x = Hills.withPlayers(60);
        Check.fails("P42 no avalanche", ARITHMETIC, x::meanAvalanche);
        x.drop(0, 12, 2);
        Check.fails("P42 still none", ARITHMETIC, x::meanAvalanche);
        x.drop(0, 12, 7);
        Check.same("P42 6 of 1", x.meanAvalanche(), 6.0);
        x.pile(0, 3);
        Check.same("P42 7 of 2", x.meanAvalanche(), 3.5);
        x.pile(24, 3);
        Check.same("P42 8 of 3", x.meanAvalanche(), 8.0 / 3.0);
        x.undo();
        x.undo();
        x.undo();
        Check.fails("P42 undone", ARITHMETIC, x::meanAvalanche);
    }
}
