/** Each of the promises 1 to 46 by a test of its own, from the document's first to its last. */
final class PromisesTest {
    private PromisesTest() {}

    public static void main(String[] args) {
        PlayersPromises.all();
        HillPromises.all();
        CrownsPromises.all();
        CommandsPromises.all();
        StatePromises.all();
        Promise.eachHasATest();
        Check.end();
    }
}
