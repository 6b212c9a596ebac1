/** Promise 12 by its sentences: each edge of failed. */
public final class Promise12EdgesTest {
    private static final String PROMISE = "Promise 12";

    public static void main(String[] args) {
        Check check = new Check();
        run(check);
        check.end();
    }

    static void run(Check check) {
        twice(check);
        atEachCampaign(check);
        staysSo(check);
        atAllCampaigns(check);
        noCar(check);
    }

    private static void twice(Check check) {
        check.sentence(PROMISE, "At how many campaigns a car FAILED twice "
                + "(and would have to wait for people).");
        FleetWaves fleet = Check.running(2);
        check.that("never", fleet.failed(1), 0);
        check.that("begun", fleet.due(1, 0), 1);
        check.that("begun is not failed", fleet.failed(1), 0);
        fleet.report(1, 1, false);
        check.that("once", fleet.failed(1), 0);
        check.that("refused", fleet.report(1, 1, false), -3);
        check.that("once still", fleet.failed(1), 0);
        check.that("begun again", fleet.due(1, 100), 1);
        check.that("once still", fleet.failed(1), 0);
        fleet.report(1, 1, false);
        check.that("twice", fleet.failed(1), 1);
        check.that("nothing more", fleet.due(1, 1000), 0);
        check.that("the other car", fleet.failed(2), 0);
    }

    private static void atEachCampaign(Check check) {
        check.sentence(PROMISE, "At how many campaigns a car FAILED twice");
        FleetWaves fleet = Check.fleet(1);
        for (int n = 1; n <= 3; n++) {
            fleet.campaign(n, 1);
            fleet.wave(n, 1, 1, 0);
        }
        check.reported(fleet, 1, 0, 1, false);
        check.reported(fleet, 1, 0, 2, false);
        check.reported(fleet, 1, 0, 3, false);
        check.that("once at each of three", fleet.failed(1), 0);
        check.reported(fleet, 1, 100, 1, false);
        check.that("twice at one", fleet.failed(1), 1);
        check.reported(fleet, 1, 100, 2, true);
        check.that("a good report is no failure", fleet.failed(1), 1);
        check.reported(fleet, 1, 100, 3, false);
        check.that("twice at two", fleet.failed(1), 2);
    }

    private static void staysSo(Check check) {
        check.sentence(PROMISE, "(and would have to wait for people).");
        FleetWaves fleet = Check.running(1);
        check.reported(fleet, 1, 0, 1, false);
        check.reported(fleet, 1, 100, 1, false);
        fleet.wave(1, 1, 1, 500);
        check.that("another wave", fleet.due(1, 500), 0);
        fleet.consent(1, false);
        fleet.consent(1, true);
        check.that("another consent", fleet.due(1, 500), 0);
        fleet.stop(1);
        check.that("a stopped one counts", fleet.failed(1), 1);
        fleet.campaign(0, 2);
        fleet.wave(2, 1, 1, 500);
        check.reported(fleet, 1, 500, 2, true);
        check.that("one that is not meant any more counts", fleet.failed(1), 1);
    }

    private static void atAllCampaigns(Check check) {
        check.sentence(PROMISE, "At how many campaigns a car FAILED twice");
        FleetWaves fleet = Check.fleet(1);
        for (int n = 1; n <= 40; n++) {
            // The editions go downward, so that nothing comes before the newest one.
            fleet.campaign(0, 41 - n);
            fleet.wave(n, 1, 1, 100 * n);
            check.reported(fleet, 1, 100 * n, n, false);
            check.reported(fleet, 1, 100 * n + 100, n, false);
        }
        check.that("at all of 40", fleet.failed(1), 40);
    }

    private static void noCar(Check check) {
        check.sentence(PROMISE, "-1 there is none.");
        Unchanged.lively(check)
                .by("car 0", f -> f.failed(0), -1)
                .by("car 5", f -> f.failed(5), -1)
                .by("car -1", f -> f.failed(-1), -1)
                .by("car MIN", f -> f.failed(Integer.MIN_VALUE), -1)
                .by("car MAX", f -> f.failed(Integer.MAX_VALUE), -1);
        FleetWaves fleet = Unchanged.livelyFleet();
        check.that("car 1", fleet.failed(1), 0);
        check.that("car 4", fleet.failed(4), 0);
        check.that("a fifth car", fleet.car(5, 0), 5);
        check.that("car 5", fleet.failed(5), 0);
    }
}
