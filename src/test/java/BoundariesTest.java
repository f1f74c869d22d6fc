/** Each sentence of the document that names a boundary, with a test of its own. */
public final class BoundariesTest {
    private BoundariesTest() {
    }

    public static void main(String[] args) {
        Checks checks = new Checks();
        sentences(checks).run(checks);
    }

    static Sentences sentences(Checks checks) {
        Sentences all = new Sentences();
        new TermsBoundaries(checks).tell(all);
        new SlotBoundaries(checks).tell(all);
        new TruthBoundaries(checks).tell(all);
        return all;
    }
}
