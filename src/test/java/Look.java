import java.util.function.Supplier;

/**
 * What the calls of a contest tell, in one text. Each look may end with calls that change something,
 * so that a contest is looked at by one look alone; past and look stay below 512 calls.
 */
final class Look {
    private static final int MORE_THAN_ANY = 100;

    private Look() {}

    static String answer(Supplier<?> call) {
        try {
            return String.valueOf(call.get());
        } catch (RuntimeException e) {
            return e.getClass().getSimpleName();
        }
    }

    /** All that is told without a change, but for what run sets. */
    static String besidesRun(HillContest x) {
        StringBuilder text = new StringBuilder(Hills.everything(x));
        for (int i = 0; i < 25; i++) {
            int cell = i;
            text.append(' ').append(x.steepness(cell)).append(' ').append(x.lowestNeighbour(cell));
            text.append(' ').append(x.isPeak(cell));
        }
        text.append(" stones ").append(x.stonesOnHill()).append(' ').append(x.stonesByLevels());
        text.append(" highest ").append(x.highestCell());
        text.append(" tries ").append(x.topplesIf(12, 9)).append(' ').append(x.topplesIfByScan(0, 1));
        text.append(" mean ").append(answer(x::meanAvalanche));
        text.append(" consistent ").append(x.isConsistent());
        text.append(crowns(x)).append(" line ").append(line(x));
        for (int row = 0; row < 5; row++) {
            text.append(" row ").append(Hills.row(x, row));
        }
        return text.toString();
    }

    private static String crowns(HillContest x) {
        StringBuilder text = new StringBuilder(" peaks ").append(x.peakCount());
        for (int i = 0; i <= x.peakCount(); i++) {
            int rank = i;
            text.append(' ').append(answer(() -> x.peakAt(rank)));
        }
        for (int i = 0; i <= x.playerCount(); i++) {
            int number = i;
            text.append(" player ").append(answer(() -> x.playerAtRank(number)));
            text.append(' ').append(answer(() -> x.crowns(number)));
            text.append(' ').append(answer(() -> x.score(number)));
            text.append(' ').append(answer(() -> x.crownShare(number)));
        }
        return text.toString();
    }

    /** The line as it stands, without knowing its length. */
    static String line(HillContest x) {
        StringBuilder text = new StringBuilder();
        try {
            for (int index = 0; index < MORE_THAN_ANY; index++) {
                text.append(x.lineAt(index));
            }
        } catch (IndexOutOfBoundsException e) {
            return text.toString();
        }
        return "a line without an end";
    }

    static String errors(HillContest x) {
        return answer(x::errorPosition) + " " + answer(x::failedCommand);
    }

    static String atOnce(HillContest x) {
        return errors(x) + " " + besidesRun(x);
    }

    /** What the command text does tells what it is. */
    static String ofRun(HillContest x) {
        return answer(x::run) + " " + errors(x) + " " + Hills.everything(x);
    }

    static String ofUndo(HillContest x) {
        StringBuilder text = new StringBuilder();
        String answer = "";
        for (int i = 0; i < 10 && !answer.equals("IllegalStateException"); i++) {
            answer = answer(x::undo);
            text.append(answer).append(" stones ").append(x.stonesOnHill());
            text.append(" placed ").append(x.placedTotal()).append(" topples ").append(x.toppleTotal());
            text.append(" slope ").append(x.criticalSlope()).append(' ').append(x.isBorderOpen());
            text.append(" players ").append(x.playerCount());
            for (int player = 0; player < x.playerCount(); player++) {
                text.append(' ').append(x.hand(player)).append(' ').append(x.rest(player));
            }
        }
        return text.append(Hills.everything(x)).toString();
    }

    /** The snapshot, and how many characters have room behind the command text. */
    static String ofRestore(HillContest x) {
        StringBuilder text = new StringBuilder(answer(x::restore));
        text.append(' ').append(Hills.everything(x)).append(' ').append(answer(x::undo));
        for (int i = 0; i < 61; i++) {
            text.append(' ').append(answer(() -> x.append('z')));
        }
        return text.toString();
    }
}
