/** Runs every test of the project; ends with 1 if one fails. */
public final class AllTests {
    public static void main(String[] args) throws Exception {
        Checks checks = new Checks();
        HouseTests.run(checks);
        WalkTests.run(checks);
        WayTests.run(checks);
        ChanceTests.run(checks);
        LimitTests.run(checks);
        WayLimitTests.run(checks);
        RefusalTests.run(checks);
        RandomRuns.run(checks);
        RuleTests.run(checks);
        ReadmeTests.run(checks);
        System.out.println(checks.passed() + " passed, " + checks.failed() + " failed");
        if (checks.failed() != 0 || checks.passed() == 0) {
            System.exit(1);
        }
    }
}
