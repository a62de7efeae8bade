import java.nio.file.Path;

/** Runs every test of the project; the argument is the path of the class's source. */
public final class AllTests {
    public static void main(String[] args) throws Exception {
        Check check = new Check();
        ExamplesTest.run(check);
        SubmitTest.run(check);
        AdvanceTest.run(check);
        CancelTest.run(check);
        PreemptTest.run(check);
        ReservationTest.run(check);
        FairnessTest.run(check);
        JobAnswersTest.run(check);
        StatisticsTest.run(check);
        BlocksTest.run(check);
        EventsTest.run(check);
        SaveTest.run(check);
        FaceTest.run(check);
        if (args.length > 0) {
            SourceTest.run(check, Path.of(args[0]));
        }
        RandomRunsTest.run(check);
        System.out.println(check.summary());
        if (check.failures() > 0) {
            System.exit(1);
        }
    }
}
