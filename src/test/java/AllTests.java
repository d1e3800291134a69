/** Runs every test of the project; ends with exit code 1 if one fails. */
public final class AllTests {
    public static void main(String[] args) {
        Checks checks = new Checks();
        FaceTests.check(checks);
        TrackTests.check(checks);
        TeamTests.check(checks);
        TickTests.check(checks);
        RaceTests.check(checks);
        AheadTests.check(checks);
        LimitTests.check(checks);
        AgreementTests.check(checks);
        RefusalTests.check(checks);
        ModelTests.check(checks);
        if (!checks.close()) {
            System.exit(1);
        }
    }
}
