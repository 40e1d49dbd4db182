/** Each sentence of the document that names a boundary case has a test of its own. */
public final class BoundaryTests {
    public static void main(String[] args) throws Exception {
        ModelBoundaries.run();
        CoderBoundaries.run();
        CallBoundaries.run();
        StateBoundaries.run();
        int faults = Sentences.faults();
        System.out.println(faults == 0 ? "all sentences hold" : faults + " faults");
        if (faults != 0) {
            System.exit(1);
        }
    }
}
