/** Promise 1: no cars, no campaigns, and no time told yet. */
public final class Promise01NewObjectTest {
    public static void main(String[] args) {
        Check check = new Check();
        noCarsAndNoCampaigns(check);
        startsAtTimeZero(check);
        objectsShareNothing(check);
        check.end();
    }

    private static void noCarsAndNoCampaigns(Check check) {
        FleetWaves fleet = new FleetWaves();
        for (int n = -1; n <= 1; n++) {
            check.that("due", fleet.due(n, 0), -1);
            check.that("consent", fleet.consent(n, true), -1);
            check.that("failed", fleet.failed(n), -1);
            check.that("state", fleet.state(n), -1);
            check.that("wave", fleet.wave(n, 1, 1, 0), -1);
            check.that("share", fleet.share(n, 0), -1);
            check.that("rule", fleet.rule(n, 1, 1), -1);
            check.that("stop", fleet.stop(n), -1);
            check.that("in", fleet.in(n, 1), -1);
            check.that("order", fleet.order(n, n), -1);
            check.that("report", fleet.report(n, n, true), -1);
        }
        check.that("first car", fleet.car(7, 0), 1);
        check.that("first campaign", fleet.campaign(0, 1), 1);
    }

    private static void startsAtTimeZero(Check check) {
        FleetWaves fleet = Check.fleet(1);
        check.that("due(1, -1)", fleet.due(1, -1), -2);
        check.that("due(1, Long.MIN_VALUE)", fleet.due(1, Long.MIN_VALUE), -2);
        check.that("due(1, 0)", fleet.due(1, 0), 0);
    }

    private static void objectsShareNothing(Check check) {
        FleetWaves first = Check.fleet(2);
        first.campaign(0, 1);
        first.wave(1, 1, 1, 50);
        FleetWaves second = new FleetWaves();
        check.that("state in another object", second.state(1), -1);
        check.that("car in another object", second.car(1, 0), 1);
        check.that("time in another object", second.due(1, 0), 0);
    }
}
