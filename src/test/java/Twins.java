import java.util.List;
import java.util.function.Consumer;
import java.util.function.Function;
import java.util.function.Supplier;

/** Two contests with the same past: one is asked what it must refuse, the other is not. */
final class Twins {
    private static final List<Function<HillContest, String>> LOOKS =
            List.of(Look::atOnce, Look::ofRun, Look::ofUndo, Look::ofRestore);
    private static final List<Function<HillContest, String>> LOOKS_BESIDES_RUN =
            List.of(Look::besidesRun, Look::ofUndo, Look::ofRestore);

    private Twins() {}

    /** The call throws what is due, and afterwards no other call tells that it was made. */
    static void refuse(String call, Class<? extends RuntimeException> due,
            Supplier<HillContest> past, Consumer<HillContest> asking) {
        for (Function<HillContest, String> look : LOOKS) {
            HillContest asked = past.get();
            Check.fails(call, due, () -> asking.accept(asked));
            Check.same(call + ", and all else", look.apply(asked), look.apply(past.get()));
        }
    }

    /** The past must leave the command text empty; due of errorPosition and failedCommand as Look tells. */
    static void refuseRun(String text, Class<? extends RuntimeException> due,
            Supplier<HillContest> past, String errors) {
        for (Function<HillContest, String> look : LOOKS_BESIDES_RUN) {
            HillContest asked = past.get();
            Hills.write(asked, text);
            Check.fails("run of \"" + text + "\"", due, asked::run);
            Check.same("position and command of \"" + text + "\"", Look.errors(asked), errors);
            Check.same("all else after \"" + text + "\"", look.apply(asked), look.apply(past.get()));
        }
    }
}
