/** Promise 9 by its sentences: each edge of state. */
public final class Promise09EdgesTest {
    private static final String PROMISE = "Promise 9";

    public static void main(String[] args) {
        Check check = new Check();
        run(check);
        check.end();
    }

    static void run(Check check) {
        everyState(check);
        newUntilTheFirstWave(check);
        noCampaign(check);
    }

    private static void everyState(Check check) {
        check.sentence(PROMISE, "A campaign's state.");
        FleetWaves fleet = Unchanged.livelyFleet();
        check.that("running", fleet.state(1), 1);
        check.that("new", fleet.state(2), 0);
        check.that("running", fleet.state(3), 1);
        check.that("paused", fleet.state(4), 2);
        check.that("stopped", fleet.state(5), 3);
        check.that("looking changes nothing", fleet.state(4), 2);
    }

    private static void newUntilTheFirstWave(Check check) {
        check.sentence(PROMISE, "STATES: 0 NEW (no wave yet), 1 RUNNING, 2 PAUSED, 3 STOPPED.");
        FleetWaves fleet = Check.fleet(1);
        fleet.campaign(0, 1);
        check.that("no wave yet", fleet.state(1), 0);
        check.that("a refused wave", fleet.wave(1, 1, 0, 0), -2);
        check.that("a rule", fleet.rule(1, 0, 1), 0);
        check.that("due", fleet.due(1, 5), 0);
        check.that("no wave still", fleet.state(1), 0);
        check.that("an empty wave", fleet.wave(1, 0, 1, 5), 1);
        check.that("running", fleet.state(1), 1);
        check.that("a wave for all", fleet.wave(1, 1, 1, 5), 2);
        check.reported(fleet, 1, 5, 1, false);
        check.that("paused", fleet.state(1), 2);
        check.that("stop", fleet.stop(1), 1);
        check.that("stopped", fleet.state(1), 3);
        check.that("no wave lets it run", fleet.wave(1, 1, 1, 5), -3);
        check.that("stopped still", fleet.state(1), 3);
    }

    private static void noCampaign(Check check) {
        check.sentence(PROMISE, "-1 there is none.");
        Unchanged.lively(check)
                .by("campaign 0", f -> f.state(0), -1)
                .by("campaign 6", f -> f.state(6), -1)
                .by("campaign -1", f -> f.state(-1), -1)
                .by("campaign MIN", f -> f.state(Integer.MIN_VALUE), -1)
                .by("campaign MAX", f -> f.state(Integer.MAX_VALUE), -1);
        FleetWaves fleet = Unchanged.livelyFleet();
        check.that("campaign 5, the last one", fleet.state(5), 3);
        check.that("a sixth one", fleet.campaign(7, 1), 6);
        check.that("campaign 6, now that it is there", fleet.state(6), 0);
        check.that("campaign 7", fleet.state(7), -1);
    }
}
