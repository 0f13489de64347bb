/** What several tests do with a contest. */
final class Hills {
    private Hills() {}

    static HillContest withPlayers(int... stones) {
        HillContest contest = new HillContest();
        for (int each : stones) {
            contest.addPlayer(each);
        }
        return contest;
    }

    /** Only for heights that the hill keeps, piled so that none is ever unstable. */
    static void pileTo(HillContest contest, int... cellsAndStones) {
        for (int i = 0; i < cellsAndStones.length; i += 2) {
            Check.same("pile for a start", contest.pile(cellsAndStones[i], cellsAndStones[i + 1]), 0);
        }
    }

    static String heights(HillContest contest) {
        StringBuilder text = new StringBuilder();
        for (int cell = 0; cell < 25; cell++) {
            if (cell > 0) {
                text.append(cell % 5 == 0 ? '/' : ' ');
            }
            text.append(contest.height(cell));
        }
        return text.toString();
    }

    /** A digit for the owner of each cell, a point where it belongs to nobody. */
    static String owners(HillContest contest) {
        StringBuilder text = new StringBuilder();
        for (int cell = 0; cell < 25; cell++) {
            if (cell > 0 && cell % 5 == 0) {
                text.append('/');
            }
            try {
                text.append(contest.owner(cell));
            } catch (java.util.NoSuchElementException e) {
                text.append('.');
            }
        }
        return text.toString();
    }

    static int write(HillContest contest, String text) {
        int length = 0;
        for (char sign : text.toCharArray()) {
            length = contest.append(sign);
        }
        return length;
    }

    static int runText(HillContest contest, String text) {
        write(contest, text);
        return contest.run();
    }

    static String row(HillContest contest, int row) {
        return line(contest, contest.describeRow(row));
    }

    static String line(HillContest contest, int length) {
        StringBuilder text = new StringBuilder();
        for (int i = 0; i < length; i++) {
            text.append(contest.lineAt(i));
        }
        return text.toString();
    }

    /** Everything that changes can change, as the calls tell it. */
    static String everything(HillContest contest) {
        StringBuilder text = new StringBuilder();
        text.append(heights(contest)).append(' ').append(owners(contest));
        text.append(" slope ").append(contest.criticalSlope());
        text.append(" open ").append(contest.isBorderOpen());
        for (int player = 0; player < contest.playerCount(); player++) {
            text.append(" player ").append(contest.hand(player)).append(' ').append(contest.rest(player));
        }
        text.append(" totals ").append(contest.toppleTotal());
        text.append(' ').append(contest.avalancheCount());
        text.append(' ').append(contest.largestAvalanche());
        text.append(' ').append(contest.placedTotal());
        text.append(' ').append(contest.lostTotal());
        text.append(' ').append(contest.takenTotal());
        return text.toString();
    }
}
