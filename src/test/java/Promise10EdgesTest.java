/** Promise 10 by its sentences: each edge of stop. */
public final class Promise10EdgesTest {
    private static final String PROMISE = "Promise 10";

    public static void main(String[] args) {
        Check check = new Check();
        run(check);
        check.end();
    }

    static void run(Check check) {
        counts(check);
        countsNone(check);
        countsWhateverTheWaves(check);
        stopsEveryState(check);
        noCampaign(check);
        stopped(check);
    }

    private static void counts(Check check) {
        check.sentence(PROMISE,
                "A campaign is STOPPED: for how many cars it is MEANT that have not BEGUN it.");
        FleetWaves fleet = Check.fleet(9);
        fleet.car(11, 7);
        // Odd numbers: 1, 3, 5, 7, 9, and 11, which has the edition already.
        fleet.campaign(Check.formula(0, 2, 1), 7);
        fleet.wave(1, 1, 1, 0);
        check.reported(fleet, 1, 0, 1, true);
        check.reported(fleet, 3, 0, 1, false);
        check.that("5 begins", fleet.due(5, 0), 1);
        fleet.consent(7, false);
        check.that("3, which failed, 7, which does not consent, and 9", fleet.stop(1), 3);
        check.that("stopped", fleet.state(1), 3);
        check.that("5 has begun it", fleet.report(5, 1, true), 1);
    }

    private static void countsNone(Check check) {
        check.sentence(PROMISE, "for how many cars it is MEANT that have not BEGUN it.");
        FleetWaves noCars = new FleetWaves();
        noCars.campaign(0, 1);
        check.that("no cars", noCars.stop(1), 0);
        check.that("stopped", noCars.state(1), 3);
        FleetWaves allBegun = Check.running(2);
        allBegun.due(1, 0);
        allBegun.due(2, 0);
        check.that("all have begun it", allBegun.stop(1), 0);
        FleetWaves allDone = Check.running(1);
        check.reported(allDone, 1, 0, 1, true);
        check.that("all have the edition", allDone.stop(1), 0);
        FleetWaves other = Check.running(1);
        other.campaign(1, 1);
        other.wave(2, 1, 1, 0);
        other.due(1, 0);
        check.that("one that has begun another one counts", other.stop(2), 1);
        check.that("and one that has begun this one does not", other.stop(1), 0);
    }

    private static void countsWhateverTheWaves(Check check) {
        check.sentence(PROMISE, "for how many cars it is MEANT that have not BEGUN it.");
        FleetWaves fleet = Check.fleet(3);
        fleet.campaign(0, 2);
        fleet.campaign(0, 1);
        check.that("no wave, and another one before it", fleet.stop(1), 3);
        fleet.wave(2, 0, 1, 0);
        check.that("none is in its wave", fleet.stop(2), 3);
    }

    private static void stopsEveryState(Check check) {
        check.sentence(PROMISE, "A campaign is STOPPED:");
        for (int campaign = 1; campaign <= 4; campaign++) {
            FleetWaves fleet = Unchanged.livelyFleet();
            int[] due = {0, 2, 4, 2, 3};
            check.that("stop(" + campaign + ")", fleet.stop(campaign), due[campaign]);
            check.that("state(" + campaign + ")", fleet.state(campaign), 3);
            int other = campaign == 1 ? 2 : 1;
            check.that("another one's state", fleet.state(other), other == 1 ? 1 : 0);
        }
    }

    private static void noCampaign(Check check) {
        check.sentence(PROMISE, "-1 there is none");
        Unchanged.lively(check)
                .by("campaign 0", f -> f.stop(0), -1)
                .by("campaign 6", f -> f.stop(6), -1)
                .by("campaign -1", f -> f.stop(-1), -1)
                .by("campaign MIN", f -> f.stop(Integer.MIN_VALUE), -1)
                .by("campaign MAX", f -> f.stop(Integer.MAX_VALUE), -1);
        FleetWaves fleet = Unchanged.livelyFleet();
        check.that("a sixth one", fleet.campaign(7, 1), 6);
        check.that("campaign 6, now that it is there", fleet.stop(6), 3);
    }

    private static FleetWaves livelyFleetStopped() {
        FleetWaves fleet = Unchanged.livelyFleet();
        fleet.stop(1);
        fleet.stop(2);
        fleet.stop(4);
        return fleet;
    }

    private static void stopped(Check check) {
        check.sentence(PROMISE, "-3 it is STOPPED.");
        new Unchanged(check, Promise10EdgesTest::livelyFleetStopped, 10)
                .by("stopped while it ran", f -> f.stop(1), -3)
                .by("stopped while it was new", f -> f.stop(2), -3)
                .by("stopped while it was paused", f -> f.stop(4), -3)
                .by("stopped at first", f -> f.stop(5), -3);
        FleetWaves fleet = Unchanged.livelyFleet();
        check.that("once", fleet.stop(3), 2);
        check.that("twice", fleet.stop(3), -3);
        check.that("thrice", fleet.stop(3), -3);
        check.that("stopped", fleet.state(3), 3);
    }
}
