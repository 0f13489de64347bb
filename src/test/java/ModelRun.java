import java.util.function.Supplier;

/**
 * A run of calls on one object, asked of the program and of the model. The numbers come from a fixed
 * rule, so that a run with the same number is always the same.
 */
final class ModelRun {
    /** What an object answers after so many calls is free. */
    static final int MOST_CALLS = 512;

    private static final String[] STARTS = {
        "player ", "drop ", "pile ", "take ", "skip", "slope ", "open", "close"
    };

    final HillContest x = new HillContest();
    final Model m = new Model();
    private final String name;
    private final boolean isCalm;
    private long seed;
    private int asked;
    private int limit = MOST_CALLS;

    /** Calm runs seldom open the border or name wrong numbers, so that the hill fills. */
    ModelRun(String name, int number, boolean isCalm) {
        this.name = name;
        this.isCalm = isCalm;
        seed = number * 7919L + 17;
        below(2);
    }

    int below(int bound) {
        seed = seed * 6364136223846793005L + 1442695040888963407L;
        return (int) ((seed >>> 33) % bound);
    }

    int asked() {
        return asked;
    }

    /** From then on nothing is asked until there is a higher limit. */
    void stopAt(int calls) {
        limit = calls;
    }

    void both(String call, Supplier<Object> asking, Supplier<Object> due) {
        if (asked < limit) {
            asked++;
            Check.same(name + ", call " + asked + ": " + call, answer(asking), answer(due));
        }
    }

    private static Object answer(Supplier<Object> call) {
        try {
            return call.get();
        } catch (RuntimeException e) {
            return e.getClass();
        }
    }

    /** Mostly from 0 to bound - 1, now and then just outside. */
    int about(int bound) {
        return isCalm && below(10) > 0 ? below(bound) : below(bound + 2) - 1;
    }

    void addPlayers() {
        int players = below(6);
        for (int i = 0; i < players; i++) {
            int hand = 60 - below(below(2) * 50 + 1);
            both("addPlayer " + hand, () -> x.addPlayer(hand), () -> m.addPlayer(hand));
        }
    }

    void change() {
        int player = about(4);
        int cell = about(25);
        int stones = isCalm ? 5 + below(5) : about(11);
        int kind = below(isCalm ? 14 : 20);
        if (kind == 0) {
            int hand = isCalm ? 60 : below(64) - 1;
            both("addPlayer " + hand, () -> x.addPlayer(hand), () -> m.addPlayer(hand));
        } else if (kind <= 4) {
            both("drop " + player + " " + cell + " " + stones,
                    () -> x.drop(player, cell, stones), () -> m.drop(player, cell, stones));
        } else if (kind <= 8) {
            both("pile " + cell + " " + stones,
                    () -> x.pile(cell, stones), () -> m.pile(cell, stones));
        } else if (kind <= 10) {
            take(player, below(4) == 0 ? cell : ownedCellFrom(cell, player));
        } else if (kind <= 14) {
            rareChange();
        } else if (kind == 15) {
            commands();
        } else if (kind == 16) {
            both("skip", x::skip, m::skip);
        } else if (kind <= 18) {
            both("undo", x::undo, m::undo);
        } else {
            int row = about(5);
            both("describeRow " + row, () -> x.describeRow(row), () -> m.describeRow(row));
        }
    }

    void take(int player, int cell) {
        both("take " + player + " " + cell, () -> x.take(player, cell), () -> m.take(player, cell));
    }

    /** Without a cell that belongs to the player, the cell itself. */
    int ownedCellFrom(int cell, int player) {
        for (int i = 0; i < 25; i++) {
            int other = (cell + 1 + i) % 25;
            if (answer(() -> m.owner(other)).equals(player)) {
                return other;
            }
        }
        return cell;
    }

    private void rareChange() {
        int kind = below(isCalm ? 20 : 8);
        int slope = about(9);
        boolean isOpen = below(2) == 0;
        if (kind <= 1) {
            both("setSlope " + slope, () -> x.setSlope(slope), () -> m.setSlope(slope));
        } else if (kind == 2) {
            both("setBorder " + isOpen, () -> x.setBorder(isOpen), () -> m.setBorder(isOpen));
        } else if (kind <= 4) {
            both("save", x::save, m::save);
        } else if (kind == 5) {
            both("restore", x::restore, m::restore);
        } else if (kind <= 7) {
            commands();
        } else {
            skipOrUndo();
        }
    }

    private void skipOrUndo() {
        if (below(2) == 0) {
            both("skip", x::skip, m::skip);
        } else {
            both("undo", x::undo, m::undo);
        }
    }

    private void commands() {
        write();
        if (below(8) > 0) {
            both("run", x::run, m::run);
        }
    }

    /** Appends commands, of which some are wrong. */
    void write() {
        StringBuilder text = new StringBuilder(command());
        int more = below(6);
        for (int i = 0; i < more; i++) {
            text.append(';').append(command());
        }
        if (below(4) == 0) {
            spoil(text);
        }
        for (int i = 0; i < text.length(); i++) {
            char sign = text.charAt(i);
            both("append " + (int) sign, () -> x.append(sign), () -> m.append(sign));
        }
    }

    private String command() {
        String start = STARTS[below(STARTS.length)];
        int player = below(3);
        int cell = below(below(20) == 0 ? 100 : 25);
        String number = below(6) == 0 && cell < 10 ? "0" + cell : "" + cell;
        int stones = below(20) == 0 ? 0 : 1 + below(4);
        switch (start) {
            case "player ":
                return start + (1 + below(65));
            case "drop ":
                return start + player + " " + number + " " + stones;
            case "pile ":
                return start + number + " " + stones;
            case "take ":
                return start + player + " " + number;
            case "slope ":
                return start + (2 + below(6));
            default:
                return start;
        }
    }

    private void spoil(StringBuilder text) {
        int place = below(text.length());
        switch (below(4)) {
            case 0 -> text.setLength(place);
            case 1 -> text.deleteCharAt(place);
            case 2 -> text.setCharAt(place, "0 9;pkldsex!~".charAt(below(13)));
            default -> text.insert(place, "0 9;pkldsex\u007f\u001f".charAt(below(13)));
        }
    }

    void look() {
        int cell = about(25);
        int player = about(4);
        int rank = about(5);
        int stones = about(11);
        both("height", () -> x.height(cell), () -> m.height(cell));
        both("owner", () -> x.owner(cell), () -> m.owner(cell));
        both("steepness", () -> x.steepness(cell), () -> m.steepness(cell));
        both("lowestNeighbour", () -> x.lowestNeighbour(cell), () -> m.lowestNeighbour(cell));
        both("isPeak", () -> x.isPeak(cell), () -> m.isPeak(cell));
        both("topplesIf", () -> x.topplesIf(cell, stones), () -> m.topplesIf(cell, stones));
        both("topplesIfByScan", () -> x.topplesIfByScan(cell, stones), () -> m.topplesIf(cell, stones));
        both("hand", () -> x.hand(player), () -> m.hand(player));
        both("rest", () -> x.rest(player), () -> m.rest(player));
        both("crowns", () -> x.crowns(player), () -> m.crowns(player));
        both("score", () -> x.score(player), () -> m.score(player));
        both("crownShare", () -> x.crownShare(player), () -> m.crownShare(player));
        both("peakAt", () -> x.peakAt(rank), () -> m.peakAt(rank));
        both("playerAtRank", () -> x.playerAtRank(rank), () -> m.playerAtRank(rank));
        int index = about(30);
        both("lineAt", () -> x.lineAt(index), () -> m.lineAt(index));
    }

    void lookAtAll() {
        both("playerCount", x::playerCount, m::playerCount);
        both("criticalSlope", x::criticalSlope, m::criticalSlope);
        both("isBorderOpen", x::isBorderOpen, m::isBorderOpen);
        both("stonesOnHill", x::stonesOnHill, m::stonesOnHill);
        both("stonesByLevels", x::stonesByLevels, m::stonesOnHill);
        both("highestCell", x::highestCell, m::highestCell);
        both("peakCount", x::peakCount, m::peakCount);
        both("toppleTotal", x::toppleTotal, m::toppleTotal);
        both("avalancheCount", x::avalancheCount, m::avalancheCount);
        both("largestAvalanche", x::largestAvalanche, m::largestAvalanche);
        both("placedTotal", x::placedTotal, m::placedTotal);
        both("lostTotal", x::lostTotal, m::lostTotal);
        both("takenTotal", x::takenTotal, m::takenTotal);
        both("errorPosition", x::errorPosition, m::errorPosition);
        both("failedCommand", x::failedCommand, m::failedCommand);
        both("meanAvalanche", x::meanAvalanche, m::meanAvalanche);
        for (int i = 0; i < 25; i++) {
            int cell = i;
            both("height " + cell, () -> x.height(cell), () -> m.height(cell));
            both("owner " + cell, () -> x.owner(cell), () -> m.owner(cell));
        }
    }
}
