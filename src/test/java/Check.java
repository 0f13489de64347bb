import java.util.Objects;

/** Counts and prints the answers that are not the due ones; a test's main closes with end(). */
final class Check {
    private static int done;
    private static int wrong;
    /** What the answers are about; stands before each wrong one. */
    private static String about = "";

    private Check() {}

    /** A test that asks nothing would find nothing. */
    static void asks(String words, Runnable test) {
        about = words;
        int before = done;
        test.run();
        yes("asks something", done > before);
        about = "";
    }

    static void same(String call, Object got, Object due) {
        done++;
        if (!Objects.equals(got, due)) {
            wrong++;
            System.out.println(about + call + " answered " + got + ", due is " + due);
        }
    }

    static void yes(String call, boolean got) {
        same(call, got, true);
    }

    static void no(String call, boolean got) {
        same(call, got, false);
    }

    /** For calls whose answer is asked elsewhere, or is of no matter. */
    static void answers(String call, Runnable calling) {
        Object thrown = "no exception";
        try {
            calling.run();
        } catch (RuntimeException e) {
            thrown = e.getClass();
        }
        same(call + " throws", thrown, "no exception");
    }

    /** The exception must be of this very class: the machine's own are of classes below it. */
    static void fails(String call, Class<? extends RuntimeException> due, Runnable calling) {
        Object thrown = "no exception";
        try {
            calling.run();
        } catch (RuntimeException e) {
            thrown = e.getClass();
        }
        same(call + " throws", thrown, due);
    }

    static void end() {
        System.out.println(done + " answers, " + wrong + " of them not as due");
        if (wrong != 0 || done == 0) {
            System.exit(1);
        }
    }
}
