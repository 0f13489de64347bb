/** Promises 1 to 46 and the terms: each sentence of the document that names a boundary case. */
final class BoundsTest {
    private BoundsTest() {}

    public static void main(String[] args) {
        Pasts.checkBusy();
        TermsBounds.all();
        PlayersBounds.all();
        HillBounds.all();
        CrownsBounds.all();
        CommandsBounds.all();
        StateBounds.all();
        ExceptionsBounds.all();
        Sentence.eachHasATest();
        Check.end();
    }
}
