import java.util.function.Supplier;

/** Asks a call with the last numbers that are allowed and the first that are not, on both sides. */
final class Bounds {
    private static final Class<IndexOutOfBoundsException> INDEX = IndexOutOfBoundsException.class;

    interface Call {
        void of(HillContest contest, int number);
    }

    private Bounds() {}

    static void between(String call, int first, int last, Class<? extends RuntimeException> due,
            Supplier<HillContest> past, Call asking) {
        for (int good : new int[] {first, last}) {
            Check.answers(call + " of " + good, () -> asking.of(past.get(), good));
        }
        for (int wrong : new int[] {first - 1, last + 1, Integer.MIN_VALUE, Integer.MAX_VALUE}) {
            refused(call, wrong, due, past, asking);
        }
    }

    static void refused(String call, int number, Class<? extends RuntimeException> due,
            Supplier<HillContest> past, Call asking) {
        Twins.refuse(call + " of " + number, due, past, x -> asking.of(x, number));
    }

    static void cells(String call, Supplier<HillContest> past, Call asking) {
        between(call + ", cell", 0, 24, INDEX, past, asking);
    }

    /** The past must have as many players. */
    static void players(String call, int count, Supplier<HillContest> past, Call asking) {
        between(call + ", player", 0, count - 1, INDEX, past, asking);
    }

    static void noPlayers(String call, Call asking) {
        for (int player = -1; player <= 1; player++) {
            refused(call + ", no players,", player, INDEX, Pasts::fresh, asking);
        }
    }

    static void stones(String call, Supplier<HillContest> past, Call asking) {
        between(call + ", stones", 1, 9, IllegalArgumentException.class, past, asking);
    }
}
