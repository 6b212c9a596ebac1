/** Promise 12: failed. */
public final class Promise12FailedTest {
    public static void main(String[] args) {
        Check check = new Check();
        FleetWaves fleet = Check.fleet(2);
        for (int part = 0; part < 3; part++) {
            fleet.campaign(part, 1);
            fleet.wave(part + 1, 1, 1, 0);
        }
        check.that("no car 0", fleet.failed(0), -1);
        check.that("no car 3", fleet.failed(3), -1);
        check.that("no car MIN", fleet.failed(Integer.MIN_VALUE), -1);
        check.that("no car MAX", fleet.failed(Integer.MAX_VALUE), -1);
        check.that("none", fleet.failed(1), 0);
        check.reported(fleet, 1, 0, 1, false);
        check.reported(fleet, 1, 0, 2, false);
        check.reported(fleet, 1, 0, 3, false);
        check.that("each once", fleet.failed(1), 0);
        check.reported(fleet, 1, 100, 1, false);
        check.that("one twice", fleet.failed(1), 1);
        check.reported(fleet, 1, 100, 2, true);
        check.that("bad and good", fleet.failed(1), 1);
        check.reported(fleet, 1, 100, 3, false);
        check.that("two twice", fleet.failed(1), 2);
        fleet.stop(1);
        check.that("stopped or not", fleet.failed(1), 2);
        check.that("the other car", fleet.failed(2), 0);
        check.end();
    }
}
