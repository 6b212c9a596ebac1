/** Promise 5: due, with the Terms' DUE and BEGUN. */
public final class Promise05DueTest {
    public static void main(String[] args) {
        Check check = new Check();
        refusals(check);
        conditions(check);
        retries(check);
        earlierEditionsFirst(check);
        toldOrderFirst(check);
        heldBackByTheFirst(check);
        onlyWithoutBetween(check);
        stoppedOnesAreWaived(check);
        leastTimeThenNumber(check);
        firstWaveThatItIsIn(check);
        begunStaysDue(check);
        begunGoesBeforeAnother(check);
        begunGoesBeforeWhatComesBefore(check);
        check.end();
    }

    private static void refusals(Check check) {
        FleetWaves fleet = Check.fleet(1);
        check.that("no car 0", fleet.due(0, 0), -1);
        check.that("no car 2", fleet.due(2, 0), -1);
        check.that("no car, bad time", fleet.due(2, -1), -1);
        check.that("no car MIN", fleet.due(Integer.MIN_VALUE, 0), -1);
        check.that("no car MAX", fleet.due(Integer.MAX_VALUE, 0), -1);
        check.that("time -1", fleet.due(1, -1), -2);
        check.that("time 7", fleet.due(1, 7), 0);
        check.that("time 6", fleet.due(1, 6), -2);
        check.that("time 7 again", fleet.due(1, 7), 0);
        check.that("greatest time", fleet.due(1, Long.MAX_VALUE), 0);
        check.that("one less", fleet.due(1, Long.MAX_VALUE - 1), -2);
    }

    private static void conditions(Check check) {
        FleetWaves fleet = Check.fleet(4);
        // Part 0, odd numbers alone; the digests of 1 and 3 are 0.797 and 0.331.
        fleet.campaign(Check.formula(0, 2, 1), 5);
        check.that("new", fleet.due(1, 0), 0);
        fleet.wave(1, 1, 2, 0);
        check.that("not in the wave", fleet.due(1, 0), 0);
        check.that("not meant", fleet.due(2, 0), 0);
        fleet.consent(3, false);
        check.that("no consent", fleet.due(3, 0), 0);
        check.that("nothing was begun", fleet.report(3, 1, true), -3);
        fleet.consent(3, true);
        check.that("consent", fleet.due(3, 0), 1);
        check.that("begun", fleet.report(3, 1, true), 1);
        check.that("has the edition", fleet.due(3, 0), 0);
        fleet.wave(1, 1, 1, 4);
        check.that("in the second wave", fleet.due(1, 4), 1);
        check.that("still not meant", fleet.due(4, 4), 0);
    }

    private static void retries(Check check) {
        FleetWaves fleet = Check.fleet(1);
        fleet.campaign(0, 1);
        fleet.campaign(1, 1);
        fleet.wave(1, 1, 1, 3);
        check.that("first try", fleet.due(1, 3), 1);
        // The time told last is the wave's: the failure is at 10.
        fleet.wave(2, 0, 1, 10);
        fleet.report(1, 1, false);
        check.that("at 10", fleet.due(1, 10), 0);
        check.that("at 109", fleet.due(1, 109), 0);
        check.that("at 110", fleet.due(1, 110), 1);
        fleet.report(1, 1, false);
        check.that("after the second failure", fleet.due(1, 210), 0);
        check.that("long after", fleet.due(1, Long.MAX_VALUE), 0);
        check.that("failed", fleet.failed(1), 1);
    }

    private static void earlierEditionsFirst(Check check) {
        FleetWaves fleet = Check.fleet(2);
        fleet.campaign(0, 9);
        fleet.campaign(Check.formula(0, 2, 1), 4);
        fleet.wave(1, 1, 1, 0);
        check.that("held back by a new one", fleet.due(1, 0), 0);
        check.that("not held back by one not meant", fleet.due(2, 0), 1);
        fleet.wave(2, 1, 1, 5);
        check.reported(fleet, 1, 5, 2, true);
        check.reported(fleet, 1, 5, 1, true);
        check.that("done", fleet.due(1, 5), 0);
    }

    private static void toldOrderFirst(Check check) {
        FleetWaves fleet = Check.fleet(1);
        fleet.campaign(0, 1);
        fleet.campaign(1, 1);
        fleet.wave(1, 1, 1, 0);
        fleet.wave(2, 1, 1, 1);
        check.that("order", fleet.order(1, 2), 1);
        check.reported(fleet, 1, 1, 2, false);
        check.that("a failed one holds back", fleet.due(1, 2), 0);
        check.reported(fleet, 1, 101, 2, false);
        check.that("one given up holds back", fleet.due(1, 300), 0);
        fleet.stop(2);
        check.that("a stopped one does not", fleet.due(1, 300), 1);
    }

    private static void heldBackByTheFirst(Check check) {
        FleetWaves fleet = Check.fleet(1);
        fleet.campaign(0, 1);
        fleet.campaign(1, 1);
        fleet.campaign(0, 2);
        fleet.order(2, 1);
        fleet.wave(2, 1, 1, 0);
        fleet.wave(3, 1, 1, 0);
        check.that("the first is new", fleet.due(1, 0), 0);
        fleet.wave(1, 1, 1, 9);
        check.reported(fleet, 1, 9, 1, true);
        check.reported(fleet, 1, 9, 2, true);
        check.reported(fleet, 1, 9, 3, true);
    }

    private static void onlyWithoutBetween(Check check) {
        FleetWaves fleet = Check.fleet(2);
        fleet.campaign(0, 1);
        // The one in between is meant for even numbers alone.
        fleet.campaign(Check.formula(1, 2, 0), 1);
        fleet.campaign(2, 1);
        fleet.order(2, 1);
        fleet.order(3, 2);
        fleet.wave(3, 1, 1, 0);
        check.that("1 is before 2, but not before 3", fleet.due(1, 0), 3);
        check.that("2 is before 3", fleet.due(2, 0), 0);
    }

    private static void stoppedOnesAreWaived(Check check) {
        FleetWaves fleet = Check.fleet(3);
        fleet.campaign(0, 1);
        fleet.campaign(0, 2);
        fleet.wave(1, 1, 1, 0);
        fleet.wave(2, 1, 1, 0);
        check.that("1 begins the first", fleet.due(1, 0), 1);
        check.reported(fleet, 3, 0, 1, false);
        check.that("stop", fleet.stop(1), 2);
        check.that("1 stays with it", fleet.due(1, 1), 1);
        check.that("2 has not begun it", fleet.due(2, 1), 2);
        check.that("3 has not begun it any more", fleet.due(3, 1), 2);
        fleet.report(1, 1, false);
        check.that("nor has 1 now", fleet.due(1, 2), 2);
    }

    private static void leastTimeThenNumber(Check check) {
        FleetWaves fleet = Check.fleet(2);
        fleet.campaign(0, 1);
        fleet.campaign(1, 1);
        fleet.campaign(2, 1);
        fleet.wave(3, 1, 1, 5);
        fleet.wave(2, 1, 1, 5);
        fleet.wave(1, 1, 1, 6);
        check.reported(fleet, 1, 6, 2, true);
        check.reported(fleet, 1, 6, 3, true);
        check.reported(fleet, 1, 6, 1, true);
        check.that("all done", fleet.due(1, 6), 0);
    }

    private static void firstWaveThatItIsIn(Check check) {
        FleetWaves fleet = Check.fleet(3);
        fleet.campaign(0, 1);
        fleet.campaign(1, 1);
        // Digests for campaign 1: 0.797 of car 1, 0.029 of car 2; for campaign 2: 0.431 and 0.311.
        fleet.wave(1, 1, 10, 1);
        fleet.wave(2, 1, 1, 2);
        fleet.wave(1, 1, 1, 3);
        check.that("car 1 is in wave 2 of the first", fleet.due(1, 3), 2);
        check.that("car 2 is in wave 1 of the first", fleet.due(2, 3), 1);
    }

    private static void begunStaysDue(Check check) {
        FleetWaves fleet = Check.fleet(2);
        fleet.campaign(0, 3);
        fleet.wave(1, 1, 1, 0);
        check.that("begun", fleet.due(1, 0), 1);
        fleet.consent(1, false);
        check.that("without consent", fleet.due(1, 1), 1);
        fleet.rule(1, 0, 1);
        check.reported(fleet, 2, 1, 1, false);
        check.that("paused", fleet.state(1), 2);
        check.that("while paused", fleet.due(1, 2), 1);
        check.that("stop counts the other", fleet.stop(1), 1);
        check.that("while stopped", fleet.due(1, 3), 1);
        check.that("report", fleet.report(1, 1, false), 1);
        check.that("not due any more", fleet.due(1, 300), 0);
    }

    private static void begunGoesBeforeAnother(Check check) {
        FleetWaves fleet = Check.fleet(1);
        fleet.campaign(0, 1);
        fleet.campaign(1, 1);
        fleet.wave(1, 1, 1, 0);
        fleet.wave(2, 1, 1, 1);
        check.reported(fleet, 1, 1, 1, false);
        check.that("the second while the first waits", fleet.due(1, 2), 2);
        check.that("no other while one is begun", fleet.due(1, 200), 2);
        check.that("the first is not begun", fleet.report(1, 1, true), -3);
        fleet.report(1, 2, true);
        check.that("then the first", fleet.due(1, 200), 1);
    }

    private static void begunGoesBeforeWhatComesBefore(Check check) {
        FleetWaves fleet = Check.fleet(1);
        fleet.campaign(0, 5);
        fleet.wave(1, 1, 1, 0);
        check.that("begun", fleet.due(1, 0), 1);
        fleet.campaign(0, 3);
        fleet.campaign(1, 3);
        fleet.order(1, 3);
        fleet.wave(2, 1, 1, 0);
        fleet.wave(3, 1, 1, 0);
        check.that("still due", fleet.due(1, 0), 1);
        check.that("good report", fleet.report(1, 1, true), 1);
        check.that("the lesser edition is not meant any more", fleet.due(1, 0), 3);
    }
}
