import java.util.NoSuchElementException;

/** The promises 36 to 39: the command text. */
final class CommandsPromises {
    private static final Class<IllegalArgumentException> ARGUMENT = IllegalArgumentException.class;
    private static final Class<IllegalStateException> STATE = IllegalStateException.class;
    private static final Class<NoSuchElementException> ELEMENT = NoSuchElementException.class;

    private CommandsPromises() {}

    static void all() {
        Promise.holds(36, "append", "Appends a character to the command text.",
                "Returns the length of the command text after the call.", CommandsPromises::append);
        Promise.holds(37, "run", "Parses the command text and carries out its commands in order. Either all"
                + " commands are carried out, or none. The command text is empty after the call, also if an"
                + " exception is thrown. The first command whose method would throw an exception is the failed"
                + " command.", "Returns the number of commands.", CommandsPromises::run);
        Promise.holds(38, "errorPosition", "Returns the error position that was set last.",
                "Returns the error position.", CommandsPromises::errorPosition);
        Promise.holds(39, "failedCommand", "Returns the index of the failed command of the latest run in which"
                + " a command failed.", "Returns the index, from 0.", CommandsPromises::failedCommand);
    }

    private static void append() {
        HillContest x = new HillContest();
        Check.fails("code 31", ARGUMENT, () -> x.append((char) 31));
        Check.fails("code 127", ARGUMENT, () -> x.append((char) 127));
        Check.same("code 32", x.append((char) 32), 1);
        Check.same("code 126", x.append((char) 126), 2);
        for (int length = 3; length <= 60; length++) {
            Check.same("append", x.append('5'), length);
        }
        Check.fails("a 61st", STATE, () -> x.append('5'));
        Check.fails("a 61st that is none", ARGUMENT, () -> x.append((char) 31));
    }

    private static void run() {
        runAllCommands();
        HillContest x = Hills.withPlayers(60);
        String before = Hills.everything(x);
        Check.fails("the last one fails", STATE, () -> Hills.runText(x, "pile 0 9;skip;open;take 0 12"));
        Check.same("none is carried out", Hills.everything(x), before);
        Check.same("it is the failed one", x.failedCommand(), 3);
        Check.fails("the text is empty, and that is none", ARGUMENT, x::run);
        Check.same("the position", x.errorPosition(), 0);
        Check.fails("the last one is wrong", ARGUMENT, () -> Hills.runText(x, "pile 0 9;skip;open;toke 0 12"));
        Check.same("none is carried out", Hills.everything(x), before);
        Check.same("the position", x.errorPosition(), 20);
        Check.same("the failed command is left", x.failedCommand(), 3);
        Check.same("the text is empty", x.append('s'), 1);
        Check.same("only the player was a change", x.undo(), 0);
    }

    private static void runAllCommands() {
        HillContest x = new HillContest();
        Check.same("four", Hills.runText(x, "player 20;drop 0 12 3;take 0 12;pile 07 1"), 4);
        Check.same("heights", Hills.heights(x), "0 0 0 0 0/0 0 2 0 0/0 0 1 0 0/0 0 0 0 0/0 0 0 0 0");
        Check.same("owners", Hills.owners(x), "...../...../..0../...../.....");
        Check.same("hand", x.hand(0), 18);
        Check.same("three", Hills.runText(x, "slope 2;open;skip"), 3);
        Check.same("slope and border", x.criticalSlope() + " " + x.isBorderOpen(), "2 true");
        Check.same("one", Hills.runText(x, "close"), 1);
        Check.no("closed", x.isBorderOpen());
        Check.same("three changes", x.undo(), 2);
        Check.yes("the latest undone", x.isBorderOpen());
    }

    private static void errorPosition() {
        HillContest x = new HillContest();
        Check.fails("none was set", ELEMENT, x::errorPosition);
        String[] texts = {"", "x", "pl", "plx", "drop 0 12 10", "skip;", "take 0 5;slope", "open 1"};
        int[] positions = {0, 0, 2, 2, 11, 5, 14, 4};
        for (int i = 0; i < texts.length; i++) {
            String text = texts[i];
            Check.fails("run of \"" + text + "\"", ARGUMENT, () -> Hills.runText(x, text));
            Check.same("position in \"" + text + "\"", x.errorPosition(), positions[i]);
        }
        Hills.runText(x, "skip");
        Check.fails("a failure", STATE, () -> Hills.runText(x, "player 61"));
        x.undo();
        Check.same("stays", x.errorPosition(), 4);
    }

    private static void failedCommand() {
        HillContest x = new HillContest();
        Check.fails("no run", ELEMENT, x::failedCommand);
        Check.fails("no command text", ARGUMENT, () -> Hills.runText(x, "skip;skip;"));
        Check.fails("no command has failed", ELEMENT, x::failedCommand);
        Check.fails("the third", STATE, () -> Hills.runText(x, "skip;open;slope 7;slope 1"));
        Check.same("failedCommand", x.failedCommand(), 2);
        Check.fails("the first", STATE, () -> Hills.runText(x, "take 0 0"));
        Check.same("failedCommand", x.failedCommand(), 0);
        Check.fails("the eleventh", STATE, () -> Hills.runText(x, "skip;".repeat(10) + "player 0"));
        Check.same("failedCommand", x.failedCommand(), 10);
        Hills.runText(x, "skip;skip");
        x.undo();
        Check.same("stays", x.failedCommand(), 10);
    }
}
