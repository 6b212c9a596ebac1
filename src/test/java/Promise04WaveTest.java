/** Promise 4: wave. */
public final class Promise04WaveTest {
    private static final long GREATEST = 1L << 30;

    public static void main(String[] args) {
        Check check = new Check();
        ranges(check);
        sharesNeverFall(check);
        sharesAreComparedExactly(check);
        timesNeverFall(check);
        refusedTimesAreNotTold(check);
        refusalsInTheirOrder(check);
        runningAgain(check);
        check.end();
    }

    private static void ranges(Check check) {
        FleetWaves fleet = new FleetWaves();
        fleet.campaign(0, 1);
        check.that("no campaign 0", fleet.wave(0, 1, 1, 0), -1);
        check.that("no campaign 2", fleet.wave(2, 1, 1, 0), -1);
        check.that("no campaign MIN", fleet.wave(Integer.MIN_VALUE, 1, 1, 0), -1);
        check.that("no campaign MAX", fleet.wave(Integer.MAX_VALUE, 1, 0, -1), -1);
        check.that("down 0", fleet.wave(1, 0, 0, 0), -2);
        check.that("down -1", fleet.wave(1, -1, -1, 0), -2);
        check.that("down 2^30 + 1", fleet.wave(1, 1, GREATEST + 1, 0), -2);
        check.that("down MAX", fleet.wave(1, 1, Long.MAX_VALUE, 0), -2);
        check.that("up -1", fleet.wave(1, -1, 1, 0), -2);
        check.that("up above down", fleet.wave(1, 3, 2, 0), -2);
        check.that("up MIN", fleet.wave(1, Long.MIN_VALUE, 1, 0), -2);
        check.that("time -1", fleet.wave(1, 1, 1, -1), -2);
        check.that("still new", fleet.state(1), 0);
        check.that("up 0", fleet.wave(1, 0, 1, 0), 1);
        check.that("running", fleet.state(1), 1);
        check.that("down 2^30", fleet.wave(1, 1, GREATEST, 0), 2);
        check.that("up 2^30", fleet.wave(1, GREATEST, GREATEST, Long.MAX_VALUE), 3);
    }

    private static void sharesNeverFall(Check check) {
        FleetWaves fleet = new FleetWaves();
        fleet.campaign(0, 1);
        fleet.campaign(1, 1);
        check.that("1/2", fleet.wave(1, 1, 2, 0), 1);
        check.that("1/3", fleet.wave(1, 1, 3, 0), -2);
        check.that("2/4", fleet.wave(1, 2, 4, 0), 2);
        check.that("2/3", fleet.wave(1, 2, 3, 0), 3);
        check.that("1/2 after 2/3", fleet.wave(1, 1, 2, 0), -2);
        check.that("1/3 of another campaign", fleet.wave(2, 1, 3, 0), 1);
    }

    private static void sharesAreComparedExactly(Check check) {
        FleetWaves fleet = new FleetWaves();
        fleet.campaign(0, 1);
        // They differ by some 2^-60: (2^30 - 2) / (2^30 - 1) is the lesser one.
        check.that("greater", fleet.wave(1, GREATEST - 1, GREATEST, 0), 1);
        check.that("lesser", fleet.wave(1, GREATEST - 2, GREATEST - 1, 0), -2);
        check.that("same", fleet.wave(1, GREATEST - 1, GREATEST, 0), 2);
    }

    private static void timesNeverFall(Check check) {
        FleetWaves fleet = Check.fleet(1);
        fleet.campaign(0, 1);
        fleet.campaign(1, 1);
        check.that("wave at 10", fleet.wave(1, 0, 1, 10), 1);
        check.that("wave at 9", fleet.wave(1, 0, 1, 9), -2);
        check.that("wave at 9 of another", fleet.wave(2, 0, 1, 9), -2);
        check.that("due at 9", fleet.due(1, 9), -2);
        check.that("wave at 10 again", fleet.wave(2, 0, 1, 10), 1);
        check.that("due at 20", fleet.due(1, 20), 0);
        check.that("wave at 19", fleet.wave(1, 0, 1, 19), -2);
        check.that("wave at 20", fleet.wave(1, 0, 1, 20), 2);
    }

    private static void refusedTimesAreNotTold(Check check) {
        FleetWaves fleet = Check.fleet(1);
        fleet.campaign(0, 1);
        fleet.campaign(1, 1);
        fleet.stop(2);
        for (int n = 0; n < 20; n++) {
            fleet.wave(1, 1, 2, 5);
        }
        check.that("unknown at 50", fleet.wave(3, 1, 1, 50), -1);
        check.that("range at 50", fleet.wave(1, 1, 0, 50), -2);
        check.that("lesser share at 50", fleet.wave(1, 1, 3, 50), -2);
        check.that("stopped at 50", fleet.wave(2, 1, 1, 50), -3);
        check.that("no room at 50", fleet.wave(1, 1, 1, 50), -4);
        check.that("due of no car at 50", fleet.due(2, 50), -1);
        check.that("time is still 5", fleet.due(1, 5) >= 0 ? 1 : 0, 1);
    }

    private static void refusalsInTheirOrder(Check check) {
        FleetWaves fleet = new FleetWaves();
        fleet.campaign(0, 1);
        for (int n = 1; n <= 20; n++) {
            check.that("wave " + n, fleet.wave(1, n, 40, n), n);
        }
        check.that("wave 21", fleet.wave(1, 1, 1, 20), -4);
        check.that("lesser share of 20", fleet.wave(1, 1, 3, 20), -2);
        check.that("time of 20", fleet.wave(1, 1, 1, 19), -2);
        check.that("in wave 20", fleet.in(1, 20), 0);
        check.that("no wave 21", fleet.in(1, 21), -1);
        fleet.stop(1);
        check.that("stopped with 20", fleet.wave(1, 1, 1, 20), -3);
        check.that("stopped, lesser share", fleet.wave(1, 1, 3, 20), -2);
        check.that("stopped, time", fleet.wave(1, 1, 1, 19), -2);
        check.that("stopped, range", fleet.wave(1, 2, 1, 20), -2);
        check.that("stays stopped", fleet.state(1), 3);
    }

    private static void runningAgain(Check check) {
        FleetWaves fleet = Check.fleet(3);
        fleet.campaign(0, 1);
        fleet.rule(1, 0, 1);
        fleet.wave(1, 1, 1, 0);
        check.reported(fleet, 1, 0, 1, false);
        check.that("paused", fleet.state(1), 2);
        check.that("nothing due", fleet.due(2, 0), 0);
        check.that("refused wave", fleet.wave(1, 1, 2, 0), -2);
        check.that("still paused", fleet.state(1), 2);
        check.that("wave", fleet.wave(1, 1, 1, 3), 2);
        check.that("running", fleet.state(1), 1);
        check.that("due", fleet.due(2, 3), 1);
    }
}
