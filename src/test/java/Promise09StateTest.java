/** Promise 9: state. */
public final class Promise09StateTest {
    public static void main(String[] args) {
        Check check = new Check();
        FleetWaves fleet = Check.fleet(2);
        fleet.campaign(0, 1);
        fleet.campaign(1, 1);
        check.that("no campaign 0", fleet.state(0), -1);
        check.that("no campaign 3", fleet.state(3), -1);
        check.that("no campaign -1", fleet.state(-1), -1);
        check.that("no campaign MIN", fleet.state(Integer.MIN_VALUE), -1);
        check.that("no campaign MAX", fleet.state(Integer.MAX_VALUE), -1);
        check.that("new", fleet.state(1), 0);
        fleet.wave(1, 0, 1, 0);
        check.that("running", fleet.state(1), 1);
        check.that("the other is new", fleet.state(2), 0);
        fleet.wave(1, 1, 1, 0);
        fleet.rule(1, 0, 1);
        check.reported(fleet, 1, 0, 1, false);
        check.that("paused", fleet.state(1), 2);
        fleet.wave(1, 1, 1, 0);
        check.that("running again", fleet.state(1), 1);
        fleet.stop(1);
        check.that("stopped", fleet.state(1), 3);
        check.that("the other is still new", fleet.state(2), 0);
        fleet.stop(2);
        check.that("stopped without a wave", fleet.state(2), 3);
        check.end();
    }
}
