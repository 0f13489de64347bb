/** Each call of the face by its number in the document's order, asked of both with the run's numbers. */
final class AnyCall {
    static final int COUNT = 45;
    static final int RUN = 35;

    private AnyCall() {}

    static void ask(ModelRun run, int call) {
        if (call < 8) {
            player(run, call);
        } else if (call < 15) {
            slopeAndHeight(run, call);
        } else if (call < 21) {
            hill(run, call);
        } else if (call < 28) {
            crowns(run, call);
        } else if (call < 34) {
            totals(run, call);
        } else if (call < 38) {
            commands(run, call);
        } else {
            state(run, call);
        }
    }

    private static void player(ModelRun run, int call) {
        HillContest x = run.x;
        Model m = run.m;
        int stones = 1 + run.about(60);
        int player = run.about(4);
        int cell = run.about(25);
        int few = 1 + run.about(9);
        switch (call) {
            case 0 -> run.both("addPlayer " + stones, () -> x.addPlayer(stones), () -> m.addPlayer(stones));
            case 1 -> run.both("drop " + player + " " + cell + " " + few,
                    () -> x.drop(player, cell, few), () -> m.drop(player, cell, few));
            case 2 -> run.both("pile " + cell + " " + few, () -> x.pile(cell, few), () -> m.pile(cell, few));
            case 3 -> run.take(player, run.ownedCellFrom(cell, player));
            case 4 -> run.both("skip", x::skip, m::skip);
            case 5 -> run.both("playerCount", x::playerCount, m::playerCount);
            case 6 -> run.both("hand " + player, () -> x.hand(player), () -> m.hand(player));
            default -> run.both("rest " + player, () -> x.rest(player), () -> m.rest(player));
        }
    }

    private static void slopeAndHeight(ModelRun run, int call) {
        HillContest x = run.x;
        Model m = run.m;
        int slope = 2 + run.about(5);
        boolean isOpen = run.below(2) == 0;
        int cell = run.about(25);
        switch (call) {
            case 8 -> run.both("setSlope " + slope, () -> x.setSlope(slope), () -> m.setSlope(slope));
            case 9 -> run.both("setBorder " + isOpen, () -> x.setBorder(isOpen), () -> m.setBorder(isOpen));
            case 10 -> run.both("criticalSlope", x::criticalSlope, m::criticalSlope);
            case 11 -> run.both("isBorderOpen", x::isBorderOpen, m::isBorderOpen);
            case 12 -> run.both("height " + cell, () -> x.height(cell), () -> m.height(cell));
            case 13 -> run.both("owner " + cell, () -> x.owner(cell), () -> m.owner(cell));
            default -> run.both("steepness " + cell, () -> x.steepness(cell), () -> m.steepness(cell));
        }
    }

    private static void hill(ModelRun run, int call) {
        HillContest x = run.x;
        Model m = run.m;
        int cell = run.about(25);
        int few = 1 + run.about(9);
        switch (call) {
            case 15 -> run.both("lowestNeighbour " + cell,
                    () -> x.lowestNeighbour(cell), () -> m.lowestNeighbour(cell));
            case 16 -> run.both("stonesOnHill", x::stonesOnHill, m::stonesOnHill);
            case 17 -> run.both("stonesByLevels", x::stonesByLevels, m::stonesOnHill);
            case 18 -> run.both("highestCell", x::highestCell, m::highestCell);
            case 19 -> run.both("topplesIf " + cell + " " + few,
                    () -> x.topplesIf(cell, few), () -> m.topplesIf(cell, few));
            default -> run.both("topplesIfByScan " + cell + " " + few,
                    () -> x.topplesIfByScan(cell, few), () -> m.topplesIf(cell, few));
        }
    }

    private static void crowns(ModelRun run, int call) {
        HillContest x = run.x;
        Model m = run.m;
        int cell = run.about(25);
        int player = run.about(4);
        int rank = run.about(5);
        switch (call) {
            case 21 -> run.both("isPeak " + cell, () -> x.isPeak(cell), () -> m.isPeak(cell));
            case 22 -> run.both("peakCount", x::peakCount, m::peakCount);
            case 23 -> run.both("peakAt " + rank, () -> x.peakAt(rank), () -> m.peakAt(rank));
            case 24 -> run.both("crowns " + player, () -> x.crowns(player), () -> m.crowns(player));
            case 25 -> run.both("score " + player, () -> x.score(player), () -> m.score(player));
            case 26 -> run.both("playerAtRank " + player,
                    () -> x.playerAtRank(player), () -> m.playerAtRank(player));
            default -> run.both("crownShare " + player,
                    () -> x.crownShare(player), () -> m.crownShare(player));
        }
    }

    private static void totals(ModelRun run, int call) {
        HillContest x = run.x;
        Model m = run.m;
        switch (call) {
            case 28 -> run.both("toppleTotal", x::toppleTotal, m::toppleTotal);
            case 29 -> run.both("avalancheCount", x::avalancheCount, m::avalancheCount);
            case 30 -> run.both("largestAvalanche", x::largestAvalanche, m::largestAvalanche);
            case 31 -> run.both("placedTotal", x::placedTotal, m::placedTotal);
            case 32 -> run.both("lostTotal", x::lostTotal, m::lostTotal);
            default -> run.both("takenTotal", x::takenTotal, m::takenTotal);
        }
    }

    private static void commands(ModelRun run, int call) {
        HillContest x = run.x;
        Model m = run.m;
        char sign = (char) (32 + run.about(95));
        switch (call) {
            case 34 -> run.both("append " + (int) sign, () -> x.append(sign), () -> m.append(sign));
            case RUN -> run.both("run", x::run, m::run);
            case 36 -> run.both("errorPosition", x::errorPosition, m::errorPosition);
            default -> run.both("failedCommand", x::failedCommand, m::failedCommand);
        }
    }

    private static void state(ModelRun run, int call) {
        HillContest x = run.x;
        Model m = run.m;
        int row = run.about(5);
        int index = run.about(12);
        switch (call) {
            case 38 -> run.both("describeRow " + row, () -> x.describeRow(row), () -> m.describeRow(row));
            case 39 -> run.both("lineAt " + index, () -> x.lineAt(index), () -> m.lineAt(index));
            case 40 -> run.both("meanAvalanche", x::meanAvalanche, m::meanAvalanche);
            case 41 -> run.both("isConsistent", x::isConsistent, () -> true);
            case 42 -> run.both("undo", x::undo, m::undo);
            case 43 -> run.both("save", x::save, m::save);
            default -> run.both("restore", x::restore, m::restore);
        }
    }
}
