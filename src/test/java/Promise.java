import java.util.ArrayList;
import java.util.List;

/**
 * The tests of the promises, one for each: a test bears the promise's number and name, what the
 * document says that the call does, and what it returns. At the end each promise must have one.
 */
final class Promise {
    /** Number, name, what the call does, what it returns. */
    private static final List<String[]> tested = new ArrayList<>();

    private Promise() {}

    static void holds(int number, String name, String words, String returns, Runnable test) {
        tested.add(new String[] {"" + number, name, words, returns});
        Check.asks("Promise " + number + " (" + name + "): ", test);
    }

    static void eachHasATest() {
        Check.same("the promises with a test", tested.size(), Document.PROMISES);
        for (int number = 1; number <= tested.size(); number++) {
            Check.same("the number of a test", tested.get(number - 1)[0], "" + number);
        }
        if (!Document.isHere()) {
            return;
        }
        for (String[] test : tested) {
            String[] promise = Document.promise(Integer.parseInt(test[0]));
            Check.same("the name of the promise " + test[0], test[1], promise[0]);
            Check.same("what " + test[1] + " does", test[2], promise[2]);
            Check.same("what " + test[1] + " returns", test[3], promise[3]);
        }
    }
}
