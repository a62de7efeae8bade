import java.nio.file.Path;

/** Runs every test of the project; an argument is the project's directory, if that is not the current one. */
public final class AllTests {
    private interface Group {
        void run(Check check) throws Exception;
    }

    private static final Group[] ORDINARY = {
        ExamplesTest::run, SubmitTest::run, AdvanceTest::run, CancelTest::run, PreemptTest::run,
        ReservationTest::run, FairnessTest::run, JobAnswersTest::run, StatisticsTest::run, BlocksTest::run,
        EventsTest::run,
    };
    private static final Group[] EDGES = {
        SubmitEdges::run, AdvanceEdges::run, CancelEdges::run, PreemptEdges::run, ReservationEdges::run,
        RefusalEdges::run, FairnessEdges::run, JobEdges::run, StatisticsEdges::run, ProcessorEdges::run,
        BlockEdges::run, EventEdges::run, SaveEdges::run, LimitEdges::run, RefusedCalls::run,
    };

    public static void main(String[] args) {
        Check check = new Check();
        runAll(check, ORDINARY);
        runAll(check, EDGES);
        runAll(check, FaceTest::run, RandomRunsTest::run);
        Path root = Path.of(args.length > 0 ? args[0] : ".");
        Path source = root.resolve("src/main/java/BuddyBlockScheduler.java");
        runAll(check, toCheck -> SourceTest.run(toCheck, source), toCheck -> ReadmeTest.run(toCheck, root));
        System.out.println(check.summary());
        if (check.failures() > 0) {
            System.exit(1);
        }
    }

    /** An exception that no test waits for is a failure, and the next group is run none the less. */
    private static void runAll(Check check, Group... groups) {
        for (Group group : groups) {
            try {
                group.run(check);
            } catch (Exception e) {
                check.broke(e);
            }
        }
    }
}
