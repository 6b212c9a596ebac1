/** Promise 10: stop. */
public final class Promise10StopTest {
    public static void main(String[] args) {
        Check check = new Check();
        refusals(check);
        counts(check);
        everyState(check);
        nothingIsDueOfIt(check);
        check.end();
    }

    private static void refusals(Check check) {
        FleetWaves fleet = Check.fleet(3);
        fleet.campaign(0, 1);
        check.that("no campaign 0", fleet.stop(0), -1);
        check.that("no campaign 2", fleet.stop(2), -1);
        check.that("no campaign MAX", fleet.stop(Integer.MAX_VALUE), -1);
        check.that("no campaign MIN", fleet.stop(Integer.MIN_VALUE), -1);
        check.that("stop", fleet.stop(1), 3);
        check.that("stopped", fleet.stop(1), -3);
    }

    private static void counts(Check check) {
        FleetWaves fleet = Check.fleet(8);
        fleet.car(11, 7);
        // Odd numbers alone; of these 11 has the edition already.
        fleet.campaign(Check.formula(0, 2, 1), 7);
        fleet.wave(1, 1, 1, 0);
        check.reported(fleet, 1, 0, 1, true);
        check.reported(fleet, 3, 0, 1, false);
        check.that("begun", fleet.due(5, 0), 1);
        fleet.consent(7, false);
        check.that("3 and 7", fleet.stop(1), 2);
    }

    private static void everyState(Check check) {
        FleetWaves fleet = Check.fleet(2);
        fleet.campaign(0, 1);
        fleet.campaign(1, 1);
        fleet.wave(2, 1, 1, 0);
        fleet.rule(2, 0, 1);
        check.reported(fleet, 1, 0, 2, false);
        check.that("paused", fleet.state(2), 2);
        check.that("stop a new one", fleet.stop(1), 2);
        check.that("stop a paused one", fleet.stop(2), 2);
        check.that("stopped", fleet.state(1), 3);
        check.that("stopped", fleet.state(2), 3);
    }

    private static void nothingIsDueOfIt(Check check) {
        FleetWaves fleet = Check.fleet(2);
        fleet.campaign(0, 1);
        fleet.wave(1, 1, 1, 0);
        check.that("begun", fleet.due(1, 0), 1);
        check.that("stop", fleet.stop(1), 1);
        check.that("not for the other car", fleet.due(2, 0), 0);
        check.that("no wave", fleet.wave(1, 1, 1, 0), -3);
        check.that("stopped", fleet.state(1), 3);
    }
}
