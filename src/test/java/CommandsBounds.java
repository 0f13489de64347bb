import java.util.NoSuchElementException;

/** The term "Commands" and the promises 36 to 39, sentence by sentence. */
final class CommandsBounds {
    private static final Class<IllegalArgumentException> ARGUMENT = IllegalArgumentException.class;
    private static final Class<IllegalStateException> STATE = IllegalStateException.class;
    private static final Class<NoSuchElementException> ELEMENT = NoSuchElementException.class;
    private static final String NONE = "NoSuchElementException";
    private static final String[] KEYWORDS = {
        "player ", "drop ", "pile ", "take ", "skip", "slope ", "open", "close"
    };

    private CommandsBounds() {}

    static void all() {
        commands();
        append();
        run();
        errors();
    }

    private static void commands() {
        String section = "Commands";
        Sentence.holds(section, "The command text is a buffer of at most 60 characters",
                CommandsBounds::buffer);
        Sentence.holds(section, "A command text has the following form, where braces mean zero or more"
                + " repetitions and brackets an optional part", CommandsBounds::form);
        Sentence.holds(section, "The commands call addPlayer(), drop(), pile(), take(), skip(),"
                + " setSlope(), and setBorder() with true for \"open\" and false for \"close\", with the"
                + " numbers of the command as parameters in their order", CommandsBounds::calls);
        Sentence.holds(section, "The error position of a text is the index of the first character that"
                + " cannot continue any command text", CommandsBounds::firstWrongCharacter);
        Sentence.holds(section, "If every character can, the error position is the length of the text",
                CommandsBounds::endOfText);
        Sentence.holds(section, "Keywords are matched character by character", CommandsBounds::keywords);
    }

    private static void append() {
        String section = "Promise 36";
        Sentence.holds(section, "Returns the length of the command text after the call.",
                CommandsBounds::appendLength);
        Sentence.holds(section, "Throws `IllegalArgumentException` if the code of the character is not"
                + " from 32 to 126", CommandsBounds::appendArgument);
        Sentence.holds(section, "Throws `IllegalStateException` if the command text has 60 characters",
                CommandsBounds::appendState);
    }

    private static void run() {
        String section = "Promise 37";
        Sentence.holds(section, "Either all commands are carried out, or none.", CommandsBounds::allOrNone);
        Sentence.holds(section, "The command text is empty after the call, also if an exception is thrown.",
                CommandsBounds::emptyAfterRun);
        Sentence.holds(section, "The first command whose method would throw an exception is the failed"
                + " command.", CommandsBounds::firstFailure);
        Sentence.holds(section, "Returns the number of commands.", CommandsBounds::numberOfCommands);
        Sentence.holds(section, "Throws `IllegalArgumentException` if the text is not a command text; the"
                + " error position is set and the failed command is left as it is", CommandsBounds::runArgument);
        Sentence.holds(section, "Throws `IllegalStateException` if a command fails; the failed command is"
                + " set and the error position is left as it is", CommandsBounds::runState);
    }

    private static void errors() {
        Sentence.holds("Promise 38", "Returns the error position that was set last.",
                CommandsBounds::lastPosition);
        Sentence.holds("Promise 38", "Throws `NoSuchElementException` if no error position was set",
                CommandsBounds::positionElement);
        Sentence.holds("Promise 39", "of the latest run in which a command failed",
                CommandsBounds::latestFailure);
        Sentence.holds("Promise 39", "Returns the index, from 0.", CommandsBounds::indexOfFailure);
        Sentence.holds("Promise 39", "Throws `NoSuchElementException` if no command has failed",
                CommandsBounds::failureElement);
    }

    /** Four players with full hands, on whose hill a command seldom fails. */
    private static HillContest four() {
        return Hills.withPlayers(60, 60, 60, 60);
    }

    private static void accept(String text, int commands) {
        HillContest x = Hills.withPlayers(60, 60);
        x.drop(0, 0, 1);
        Hills.write(x, text);
        Check.same("run of \"" + text + "\"", Look.answer(x::run), String.valueOf(commands));
    }

    private static void reject(String text, int position) {
        HillContest x = new HillContest();
        Hills.write(x, text);
        Check.fails("run of \"" + text + "\"", ARGUMENT, x::run);
        Check.same("position of \"" + text + "\"", x.errorPosition(), position);
    }

    private static void buffer() {
        HillContest x = new HillContest();
        Check.same("59 characters", Hills.write(x, "skip;".repeat(11) + "open"), 59);
        Check.same("60 characters", x.append(';'), 60);
        Check.fails("61 characters", STATE, () -> x.append('s'));
        Check.fails("run", ARGUMENT, x::run);
        Check.same("the position is behind the 60th", x.errorPosition(), 60);
        Hills.write(x, "skip;".repeat(9) + "take 0 0;skip;");
        Check.same("60 again", x.append('s'), 60);
    }

    private static void form() {
        accept("skip", 1);
        accept("skip;open", 2);
        accept("skip;open;close", 3);
        reject("", 0);
        reject(";", 0);
        reject("skip;", 5);
        reject(";skip", 0);
        reject("skip;;open", 5);
        reject(" skip", 0);
        reject("skip ", 4);
        reject("skip; open", 5);
        reject("skip ;open", 4);
        for (String text : new String[] {"player 1", "player 01", "player 60", "pile 2 1", "pile 02 1",
                "pile 24 1", "take 0 0", "take 0 00", "drop 1 9 1", "drop 1 09 1", "drop 1 24 1", "slope 2"}) {
            accept(text, 1);
            accept("skip;" + text + ";skip", 3);
        }
        reject("player ;skip", 7);
        reject("player 001", 9);
        reject("pile 024 1", 7);
        reject("pile 24 01", 9);
        reject("pile 24 ;skip", 8);
        reject("take 00 0", 6);
        reject("take 0 000", 9);
        reject("drop 01 9 1", 6);
        reject("drop 1 009 1", 9);
        reject("drop 1 9 10", 10);
        reject("slope 02", 7);
        reject("slope ;skip", 6);
        reject("open 1", 4);
    }

    private static void calls() {
        HillContest x = new HillContest();
        Hills.runText(x, "player 60");
        Hills.runText(x, "player 7");
        Check.same("addPlayer", x.playerCount() + " " + x.hand(0) + " " + x.hand(1), "2 60 7");
        Hills.runText(x, "drop 1 3 2");
        Check.same("drop: player, cell, stones", x.owner(3) + " " + x.height(3) + " " + x.hand(1), "1 2 5");
        Hills.runText(x, "pile 24 1");
        Check.same("pile: cell, stones", x.height(24) + " " + x.height(1) + " " + x.placedTotal(), "1 0 3");
        Hills.runText(x, "take 1 3");
        Check.same("take: player, cell", x.height(3) + " " + x.hand(1) + " " + x.takenTotal(), "1 6 1");
        Hills.runText(x, "slope 6");
        Check.same("setSlope", x.criticalSlope(), 6);
        Hills.runText(x, "open");
        Check.yes("setBorder(true)", x.isBorderOpen());
        Hills.runText(x, "close");
        Check.no("setBorder(false)", x.isBorderOpen());
        x.setSlope(3);
        x.drop(0, 12, 9);
        Check.same("a rest", x.rest(0), 1);
        Hills.runText(x, "skip");
        Check.same("skip", x.rest(0), 0);
    }

    /** The samples are whole, so that '?' is the first wrong character wherever it is put. */
    private static void firstWrongCharacter() {
        String[] samples = {
            "player 12", "drop 0 12 3", "pile 12 3", "take 0 12", "skip", "slope 3", "open", "close",
            "skip;drop 0 1 2;open"
        };
        for (String text : samples) {
            for (int i = 0; i <= text.length(); i++) {
                reject(text.substring(0, i) + "?" + text.substring(i), i);
                reject(text.substring(0, i) + "?", i);
                reject(text.substring(0, i) + "??", i);
            }
        }
        reject("skip;".repeat(11) + "open?", 59);
        reject("?" + "skip;".repeat(11), 0);
        reject("pile /1 1", 5);
        reject("pile :1 1", 5);
        reject("slope /", 6);
        reject("slope :", 6);
    }

    private static void endOfText() {
        reject("", 0);
        String[] unended = {
            "player ", "drop 0 12 ", "pile 12 ", "take 0 ", "ski", "slope ", "ope", "clos", "skip;", "skip;drop 0 1 "
        };
        for (String text : unended) {
            for (int length = 1; length <= text.length(); length++) {
                String start = text.substring(0, length);
                if (!start.equals("skip")) {
                    reject(start, length);
                }
            }
        }
        reject("skip;".repeat(12), 60);
        reject("skip;".repeat(11) + "slope", 60);
        reject("skip;".repeat(11) + "playe", 60);
        reject("skip;".repeat(11) + "clos", 59);
    }

    private static void keywords() {
        for (String keyword : KEYWORDS) {
            for (int length = 0; length < keyword.length(); length++) {
                String start = keyword.substring(0, length);
                reject(start + "!", length);
                reject(start + Character.toUpperCase(keyword.charAt(length)) + "!",
                        keyword.charAt(length) == ' ' ? length + 1 : length);
                reject("open;" + start + "~" + keyword, 5 + length);
            }
        }
        reject("pp", 1);
        reject("pil ", 3);
        reject("plle 1 1", 2);
        reject("sp", 1);
        reject("skope", 2);
        reject("slip", 2);
        reject("oppen", 2);
        reject("openn", 4);
    }

    private static void appendLength() {
        HillContest x = new HillContest();
        for (int length = 1; length <= 60; length++) {
            Check.same("append", x.append('s'), length);
        }
        Look.answer(x::run);
        Check.same("append to an empty text", x.append('s'), 1);
    }

    private static void appendArgument() {
        Bounds.between("append", 32, 126, ARGUMENT, Pasts::fresh, (x, code) -> x.append((char) code));
        Bounds.between("append", 32, 126, ARGUMENT, Pasts::busy, (x, code) -> x.append((char) code));
        for (int code : new int[] {0, 9, 10, 13, 128, 160, 255, 256, 288, 65535}) {
            Bounds.refused("append", code, ARGUMENT, Pasts::busy, (x, number) -> x.append((char) number));
        }
        HillContest x = new HillContest();
        for (int code = 32; code <= 126; code++) {
            if (code == 80) {
                Look.answer(x::run);
            }
            Check.same("append of " + code, x.append((char) code), code < 80 ? code - 31 : code - 79);
        }
    }

    private static void appendState() {
        Twins.refuse("the 61st", STATE, Pasts::full, x -> x.append(' '));
        Twins.refuse("the 61st", STATE, Pasts::full, x -> x.append('~'));
        HillContest x = new HillContest();
        Hills.write(x, "x".repeat(59));
        Check.same("the 60th", x.append('x'), 60);
        Check.fails("the 61st", STATE, () -> x.append('x'));
        Look.answer(x::run);
        Check.same("the first", x.append('x'), 1);
    }

    private static void allOrNone() {
        HillContest x = Pasts.played();
        Hills.runText(x, "slope 6;pile 0 5;player 3;take 2 12;close;drop 3 1 3");
        Check.same("all", x.criticalSlope() + " " + x.height(0) + " " + x.playerCount() + " " + x.height(12)
                + " " + x.isBorderOpen() + " " + x.height(1) + " " + x.hand(3), "6 5 4 1 false 3 0");
        Twins.refuseRun("slope 6;pile 0 5;player 3;take 2 12;close;drop 3 1 4", STATE, Pasts::played, NONE + " 5");
        Twins.refuseRun("slope 6;pile 0 5;player 3;take 2 12;close;drop 3 1 3;", ARGUMENT, Pasts::played,
                "53 " + NONE);
    }

    private static void emptyAfterRun() {
        for (String text : new String[] {"skip", "skip;slope 9", "skip;", "", "?"}) {
            HillContest x = new HillContest();
            Hills.write(x, text);
            Look.answer(x::run);
            Check.same("append after a run of \"" + text + "\"", Hills.write(x, "open"), 4);
            Check.same("run after a run of \"" + text + "\"", Look.answer(x::run), "1");
            Check.fails("run of nothing", ARGUMENT, x::run);
            Check.same("position of nothing", x.errorPosition(), 0);
        }
    }

    private static void failure(String text, int index) {
        Twins.refuseRun(text, STATE, Pasts::played, NONE + " " + index);
    }

    /** By its place in the text, by what the earlier commands have done, and of several the first. */
    private static void firstFailure() {
        failure("slope 1", 0);
        failure("slope 2;slope 1", 1);
        failure("slope 1;player 0;pile 25 1", 0);
        failure("skip;player 0;pile 25 1", 1);
        failure("skip;".repeat(10) + "slope 7", 10);
        failure("player 1;player 1", 1);
        failure("drop 2 0 7;drop 2 0 1", 1);
        failure("drop 1 0 9;drop 1 5 1", 1);
        failure("take 2 12;take 2 12;take 2 12", 2);
        failure("pile 12 1;take 2 12", 1);
    }

    private static void numberOfCommands() {
        accept("skip", 1);
        accept("skip;skip", 2);
        accept("skip;open;skip;open;skip;open;skip;open;skip;open;skip;open", 12);
        accept("pile 24 1;player 60;slope 2;close", 4);
    }

    private static void runArgument() {
        Twins.refuseRun("", ARGUMENT, Pasts::fresh, "0 " + NONE);
        Twins.refuseRun("", ARGUMENT, Pasts::played, "0 " + NONE);
        Twins.refuseRun("slope 6;", ARGUMENT, Pasts::played, "8 " + NONE);
        Twins.refuseRun("slope 9;", ARGUMENT, Pasts::played, "8 " + NONE);
        Twins.refuseRun("player 0;player 60?", ARGUMENT, Pasts::played, "18 " + NONE);
        Twins.refuseRun("skip;pile 0 9;x", ARGUMENT, CommandsBounds::failed, "14 1");
        Twins.refuseRun("x", ARGUMENT, CommandsBounds::failed, "0 1");
    }

    private static HillContest failed() {
        HillContest x = Pasts.played();
        Look.answer(() -> Hills.runText(x, "skip;slope 9"));
        return x;
    }

    private static HillContest misspelt() {
        HillContest x = Pasts.played();
        Look.answer(() -> Hills.runText(x, "slop"));
        return x;
    }

    private static void runState() {
        Twins.refuseRun("take 0 0", STATE, Pasts::fresh, NONE + " 0");
        for (String wrong : new String[] {"player 0", "player 00", "player 61", "player 99", "drop 3 0 1",
                "drop 9 0 1", "drop 1 25 1", "drop 1 99 1", "drop 1 0 0", "drop 0 0 1", "drop 2 0 8",
                "pile 25 1", "pile 99 1", "pile 0 0", "take 3 24", "take 9 24", "take 0 25", "take 0 99",
                "take 0 0", "take 0 12", "take 0 8", "slope 0", "slope 1", "slope 7", "slope 9"}) {
            failure(wrong, 0);
            failure("open;" + wrong + ";skip", 1);
        }
        for (String good : new String[] {"player 1", "player 60", "drop 1 0 1", "drop 1 24 9", "drop 2 0 7",
                "pile 0 1", "pile 24 9", "take 0 24", "take 2 12", "slope 2", "slope 6"}) {
            HillContest x = Pasts.played();
            Hills.write(x, good);
            Check.same("run of \"" + good + "\"", Look.answer(x::run), "1");
            Check.same("no error of \"" + good + "\"", Look.errors(x), NONE + " " + NONE);
        }
        Twins.refuseRun("skip;skip;slope 9", STATE, CommandsBounds::misspelt, "4 2");
        fifthPlayerAndFullHill();
    }

    private static void fifthPlayerAndFullHill() {
        HillContest x = four();
        Check.fails("a fifth player", STATE, () -> Hills.runText(x, "player 1"));
        HillContest full = Pasts.almostFull();
        Check.answers("300 stones", () -> Hills.runText(full, "pile 3 3"));
        Check.fails("301 stones", STATE, () -> Hills.runText(full, "pile 3 1"));
        Check.same("300 stones", full.stonesOnHill(), 300);
    }

    private static void lastPosition() {
        HillContest x = misspelt();
        Check.same("the first error", x.errorPosition(), 4);
        Look.answer(() -> Hills.runText(x, "skip;slope 9"));
        Check.same("a failure sets none", x.errorPosition(), 4);
        Hills.runText(x, "skip");
        Check.same("a good run sets none", x.errorPosition(), 4);
        Look.answer(x::run);
        Check.same("an empty text", x.errorPosition(), 0);
        Look.answer(() -> Hills.runText(x, "skip;".repeat(12)));
        Check.same("a full text", x.errorPosition(), 60);
    }

    private static void positionElement() {
        Twins.refuse("a new object", ELEMENT, Pasts::fresh, HillContest::errorPosition);
        Twins.refuse("no run", ELEMENT, Pasts::played, HillContest::errorPosition);
        Twins.refuse("a failure only", ELEMENT, CommandsBounds::failed, HillContest::errorPosition);
        HillContest x = new HillContest();
        Hills.runText(x, "skip");
        Check.fails("a good run only", ELEMENT, x::errorPosition);
        Look.answer(() -> Hills.runText(x, "x"));
        Check.same("0 is an error position", x.errorPosition(), 0);
    }

    private static void latestFailure() {
        HillContest x = failed();
        Check.same("the first failure", x.failedCommand(), 1);
        Look.answer(() -> Hills.runText(x, "skip;slop"));
        Check.same("a wrong text has none", x.failedCommand(), 1);
        Hills.runText(x, "skip;skip;skip");
        Check.same("a good run has none", x.failedCommand(), 1);
        Look.answer(() -> Hills.runText(x, "slope 9"));
        Check.same("the latest failure", x.failedCommand(), 0);
    }

    private static void indexOfFailure() {
        failure("slope 9;skip", 0);
        failure("skip;slope 9", 1);
        HillContest x = new HillContest();
        Hills.write(x, "skip;".repeat(10) + "take 0 0");
        Check.fails("the eleventh", STATE, x::run);
        Check.same("its index", x.failedCommand(), 10);
    }

    private static void failureElement() {
        Twins.refuse("a new object", ELEMENT, Pasts::fresh, HillContest::failedCommand);
        Twins.refuse("no run", ELEMENT, Pasts::played, HillContest::failedCommand);
        Twins.refuse("a wrong text only", ELEMENT, CommandsBounds::misspelt, HillContest::failedCommand);
        HillContest x = new HillContest();
        Hills.runText(x, "skip");
        Check.fails("a good run only", ELEMENT, x::failedCommand);
        Look.answer(() -> Hills.runText(x, "slope 9"));
        Check.same("0 is an index", x.failedCommand(), 0);
    }
}
