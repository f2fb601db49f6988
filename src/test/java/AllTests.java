/** Runs every test of the project; ends with exit code 1 if an answer is not as due. */
public final class AllTests {
    private AllTests() {
    }

    public static void main(String[] args) {
        FaceTests.run();
        SourceTests.run();
        RoomTests.run();
        ReadmeTests.run();
        BookTests.run();
        WordTests.run();
        SenseTests.run();
        KeepingTests.run();
        BookEdges.run();
        WordEdges.run();
        FitEdges.run();
        SenseEdges.run();
        ToldEdges.run();
        KeepingEdges.run();
        PrintEdges.run();
        ModelTests.run();
        ThrowTests.run();
        System.out.println(Check.right() + " answers as due, " + Check.wrong() + " not as due");
        if (Check.wrong() != 0 || Check.right() == 0) {
            System.exit(1);
        }
    }
}
