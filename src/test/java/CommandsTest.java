import java.util.NoSuchElementException;

/** Promises 36 to 39: the command text and its run. */
final class CommandsTest {
    private static final Class<IllegalArgumentException> ARGUMENT = IllegalArgumentException.class;
    private static final Class<IllegalStateException> STATE = IllegalStateException.class;
    private static final Class<NoSuchElementException> ELEMENT = NoSuchElementException.class;
    private static final String TWELVE = "skip;open;skip;open;skip;open;skip;open;skip;open;skip;open";

    public static void main(String[] args) {
        append();
        appendFails();
        everyCommand();
        numbers();
        longTexts();
        errorPositions();
        errorsInNumbers();
        positionOfTheLatestError();
        failedCommands();
        failuresOfEachCommand();
        allOrNothing();
        oneErrorLeavesTheOther();
        restInARun();
        Check.end();
    }

    private static void append() {
        HillContest x = new HillContest();
        Check.same("P36 a blank", x.append(' '), 1);
        Check.same("P36 a tilde", x.append('~'), 2);
        for (int length = 3; length <= 60; length++) {
            Check.same("P36 the length", x.append((char) (length + 32)), length);
        }
        Check.fails("P36 the 61st", STATE, () -> x.append('a'));
        Check.fails("P36 again", STATE, () -> x.append(' '));
        Check.fails("P36 argument first", ARGUMENT, () -> x.append((char) 31));
        Check.fails("P37 not a text", ARGUMENT, x::run);
        Check.same("P36 empty again", x.append('a'), 1);
    }

    private static void appendFails() {
        HillContest x = new HillContest();
        char[] wrong = {0, 9, 10, 31, 127, 128, 255, 256, 0x130, 0xd800, 0xffff};
        for (char sign : wrong) {
            Check.fails("P36 append of " + (int) sign, ARGUMENT, () -> x.append(sign));
        }
        Check.same("P36 nothing was appended", Hills.write(x, "skip"), 4);
        Check.same("P37 the text is skip", x.run(), 1);
    }

    private static void everyCommand() {
        HillContest x = new HillContest();
        Check.same("P37 seven commands",
                Hills.runText(x, "player 9;drop 0 12 3;pile 0 2;take 0 12;skip;slope 5;open"), 7);
        Check.same("P37 heights", Hills.heights(x), "2 0 0 0 0/0 0 1 0 0/0 0 1 0 0/0 0 0 0 0/0 0 0 0 0");
        Check.same("P37 owners", Hills.owners(x), "...../..0../..0../...../.....");
        Check.same("P37 players", x.playerCount() + " " + x.hand(0), "1 7");
        Check.same("P37 slope and border", x.criticalSlope() + " " + x.isBorderOpen(), "5 true");
        Check.same("P37 totals", x.placedTotal() + " " + x.takenTotal() + " " + x.toppleTotal(), "5 1 1");
        Check.same("P37 close", Hills.runText(x, "close"), 1);
        Check.no("P37 closed", x.isBorderOpen());
        Check.fails("P38 no error", ELEMENT, x::errorPosition);
        Check.fails("P39 no failure", ELEMENT, x::failedCommand);
    }

    private static void numbers() {
        HillContest x = new HillContest();
        Hills.runText(x, "player 60;player 07;player 1");
        Hills.runText(x, "drop 0 24 1;pile 03 2;pile 4 2;take 0 24");
        Check.same("P37 hands", x.hand(0) + " " + x.hand(1) + " " + x.hand(2), "60 7 1");
        Check.same("P37 cells", x.height(3) + " " + x.height(4) + " " + x.height(24), "2 2 0");
        Hills.runText(x, "drop 2 9 1");
        Check.same("P37 the third player", x.owner(9), 2);
        Hills.runText(x, "slope 2;slope 6;take 2 09");
        Check.same("P37 slope", x.criticalSlope(), 6);
        Check.same("P37 taken", x.takenTotal(), 2);
    }

    private static void longTexts() {
        HillContest x = new HillContest();
        Check.same("P37 59 characters", Hills.write(x, TWELVE), 59);
        Check.same("P37 twelve commands", x.run(), 12);
        Check.yes("P37 the last one too", x.isBorderOpen());
        Check.same("P37 60 characters", Hills.write(x, TWELVE + ";"), 60);
        Check.fails("P37 a command is missing", ARGUMENT, x::run);
        Check.same("P38 the length of the text", x.errorPosition(), 60);
        String whole = "close;" + "skip;".repeat(9) + "player 60";
        Check.same("P37 60 characters", Hills.write(x, whole), 60);
        Check.same("P37 eleven commands", x.run(), 11);
        Check.same("P37 the last one too", x.hand(0), 60);
        Hills.write(x, "skip;".repeat(11) + "skipx");
        Check.fails("P37 wrong at the very end", ARGUMENT, x::run);
        Check.same("P38 wrong at the very end", x.errorPosition(), 59);
    }

    private static void error(String text, int position) {
        HillContest x = Hills.withPlayers(60);
        String before = Hills.everything(x);
        Hills.write(x, text);
        Check.fails("P37 run of " + text, ARGUMENT, x::run);
        Check.same("P38 of " + text, x.errorPosition(), position);
        Check.fails("P39 is left, " + text, ELEMENT, x::failedCommand);
        Check.same("P37 changes nothing, " + text, Hills.everything(x), before);
        Check.same("P37 the text is empty, " + text, x.append('s'), 1);
        Check.same("P37 is no change, " + text, x.undo(), 0);
    }

    private static void errorPositions() {
        error("", 0);
        error(" ", 0);
        error("x", 0);
        error(";", 0);
        error("Skip", 0);
        error("s", 1);
        error("ski", 3);
        error("sk p", 2);
        error("skap", 2);
        error("sl", 2);
        error("slip", 2);
        error("stop", 1);
        error("skip ", 4);
        error("skips", 4);
        error("skip;", 5);
        error("skip; skip", 5);
        error("skip;;skip", 5);
        error("skip;x", 5);
        error("skip;slo", 8);
        error("p", 1);
        error("pi", 2);
        error("pl", 2);
        error("pilx", 3);
        error("plaz", 3);
        error("piler", 4);
        error("players", 6);
        error("open 1", 4);
        error("opem", 3);
        error("close;clone", 9);
        error("drop", 4);
        error("dropp", 4);
        error("take  1 2", 5);
        error("player 5;open;skop", 16);
        error("pile 3 1;player 5 ", 17);
    }

    private static void errorsInNumbers() {
        error("player", 6);
        error("player ", 7);
        error("player  5", 7);
        error("player x", 7);
        error("player 123", 9);
        error("player 5x", 8);
        error("player 12 ", 9);
        error("player -5", 7);
        error("drop 0", 6);
        error("drop 01 2 3", 6);
        error("drop 0 123 1", 9);
        error("drop 0 12 34", 11);
        error("drop 0 12", 9);
        error("drop 0 1;", 8);
        error("drop 0 12 ", 10);
        error("drop 0 12 3 ", 11);
        error("pile 5", 6);
        error("pile 55 ", 8);
        error("pile 5 12", 8);
        error("pile 5,1", 6);
        error("take 00 1", 6);
        error("take 0 123", 9);
        error("take 0 /", 7);
        error("take 0 :", 7);
        error("slope", 5);
        error("slope 33", 7);
        error("slope  3", 6);
        error("slope;", 5);
        error("skip;pile 1 2;take 1", 20);
    }

    private static void positionOfTheLatestError() {
        HillContest x = new HillContest();
        Check.fails("P38 no error", ELEMENT, x::errorPosition);
        Check.fails("P37 an empty text", ARGUMENT, x::run);
        Check.same("P38 0", x.errorPosition(), 0);
        Check.fails("P37 skip;", ARGUMENT, () -> Hills.runText(x, "skip;"));
        Check.same("P38 5", x.errorPosition(), 5);
        Hills.runText(x, "skip");
        Check.same("P38 stays after a good run", x.errorPosition(), 5);
        x.undo();
        Check.same("P38 stays after an undo", x.errorPosition(), 5);
        x.save();
        Check.fails("P37 x", ARGUMENT, () -> Hills.runText(x, "x"));
        x.restore();
        Check.same("P38 is not restored", x.errorPosition(), 0);
    }

    private static void failure(String text, int index) {
        HillContest x = Hills.withPlayers(9, 60);
        x.drop(1, 24, 1);
        String before = Hills.everything(x);
        Hills.write(x, text);
        Check.fails("P37 run of " + text, STATE, x::run);
        Check.same("P39 of " + text, x.failedCommand(), index);
        Check.fails("P38 is left, " + text, ELEMENT, x::errorPosition);
        Check.same("P37 changes nothing, " + text, Hills.everything(x), before);
        Check.same("P37 the text is empty, " + text, x.append('s'), 1);
        Check.same("P37 is no change, " + text, x.undo(), 2);
    }

    private static void failedCommands() {
        failure("player 0", 0);
        failure("skip;player 61", 1);
        failure("player 1;player 1;player 1;player 1", 2);
        failure("slope 2;open;pile 0 9;pile 25 1;pile 0 0", 3);
        failure("drop 0 0 9;drop 0 0 1", 1);
        failure("drop 1 12 9;drop 1 0 1", 1);
        failure("drop 2 0 1;player 5", 0);
        failure("take 1 24;take 1 24", 1);
        failure("skip;".repeat(10) + "player 99", 10);
    }

    private static void failuresOfEachCommand() {
        failure("drop 9 0 1", 0);
        failure("drop 0 25 1", 0);
        failure("drop 0 99 1", 0);
        failure("drop 0 0 0", 0);
        failure("pile 99 1", 0);
        failure("pile 0 0", 0);
        failure("take 2 0", 0);
        failure("take 0 25", 0);
        failure("take 0 0", 0);
        failure("take 0 24", 0);
        failure("slope 0", 0);
        failure("slope 1", 0);
        failure("slope 7", 0);
        failure("slope 9", 0);
        HillContest x = new HillContest();
        for (int i = 0; i < 33; i++) {
            x.pile(7 * i % 25, 9);
        }
        Check.fails("P37 a full hill", STATE, () -> Hills.runText(x, "pile 3 2;pile 3 1;pile 3 1"));
        Check.same("P39 a full hill", x.failedCommand(), 2);
        Check.same("P37 nothing is piled", x.stonesOnHill(), 297);
    }

    private static void allOrNothing() {
        HillContest x = Hills.withPlayers(60);
        x.drop(0, 12, 9);
        String before = Hills.everything(x);
        Check.fails("P37 the last command fails", STATE,
                () -> Hills.runText(x, "skip;drop 0 1 9;open;pile 0 9;slope 2;player 9;take 1 1"));
        Check.same("P37 none is carried out", Hills.everything(x), before);
        Check.same("P39 the last", x.failedCommand(), 6);
        Check.fails("P37 none of a wrong text", ARGUMENT, () -> Hills.runText(x, "pile 0 9;open;"));
        Check.same("P37 none is carried out", Hills.everything(x), before);
        Check.same("P44 runs that fail are no changes", x.undo(), 1);
    }

    private static void oneErrorLeavesTheOther() {
        HillContest x = new HillContest();
        Check.fails("P37 a wrong text", ARGUMENT, () -> Hills.runText(x, "sky"));
        Check.fails("P37 a failure", STATE, () -> Hills.runText(x, "skip;skip;slope 9"));
        Check.same("P38 P39", x.errorPosition() + " " + x.failedCommand(), "2 2");
        Check.fails("P37 another failure", STATE, () -> Hills.runText(x, "take 0 0"));
        Check.same("P38 P39", x.errorPosition() + " " + x.failedCommand(), "2 0");
        Check.fails("P37 another wrong text", ARGUMENT, () -> Hills.runText(x, "slope 9;"));
        Check.same("P38 P39", x.errorPosition() + " " + x.failedCommand(), "8 0");
        Hills.runText(x, "open");
        x.undo();
        Check.same("P38 P39 stay", x.errorPosition() + " " + x.failedCommand(), "8 0");
    }

    private static void restInARun() {
        HillContest x = Hills.withPlayers(60, 60);
        Hills.runText(x, "drop 0 12 9;skip;drop 0 0 1");
        Check.same("P37 a rest within a run", x.rest(0) + " " + x.hand(0), "0 50");
        x.drop(0, 24, 9);
        Check.same("P37 a rest before a run", x.rest(0), 1);
        Hills.runText(x, "drop 1 4 1;drop 0 0 1");
        Check.same("P37 ends in it", x.rest(0) + " " + x.height(0), "0 2");
    }
}
