/** Promise 8: rule. */
public final class Promise08RuleTest {
    public static void main(String[] args) {
        Check check = new Check();
        ranges(check);
        atOnce(check);
        refusedRulesAreNotKept(check);
        notRunning(check);
        check.end();
    }

    private static void ranges(Check check) {
        FleetWaves fleet = new FleetWaves();
        fleet.campaign(0, 1);
        long greatest = 1L << 30;
        check.that("no campaign 0", fleet.rule(0, 1, 1), -1);
        check.that("no campaign 2", fleet.rule(2, 1, 0), -1);
        check.that("down 0", fleet.rule(1, 0, 0), -2);
        check.that("down -1", fleet.rule(1, 0, -1), -2);
        check.that("down 2^30 + 1", fleet.rule(1, 0, greatest + 1), -2);
        check.that("down MIN", fleet.rule(1, 0, Long.MIN_VALUE), -2);
        check.that("up -1", fleet.rule(1, -1, 1), -2);
        check.that("up above down", fleet.rule(1, 2, 1), -2);
        check.that("up MAX", fleet.rule(1, Long.MAX_VALUE, greatest), -2);
        check.that("0/1", fleet.rule(1, 0, 1), 0);
        check.that("1/1", fleet.rule(1, 1, 1), 0);
        check.that("0 / 2^30", fleet.rule(1, 0, greatest), 0);
        check.that("2^30 / 2^30", fleet.rule(1, greatest, greatest), 0);
        check.that("still new", fleet.state(1), 0);
    }

    private static FleetWaves oneOfThreeIsBad(Check check) {
        FleetWaves fleet = Check.fleet(4);
        fleet.campaign(0, 1);
        fleet.wave(1, 1, 1, 0);
        check.reported(fleet, 1, 0, 1, false);
        check.reported(fleet, 2, 0, 1, true);
        check.reported(fleet, 3, 0, 1, true);
        check.that("running without a rule", fleet.state(1), 1);
        return fleet;
    }

    private static void atOnce(Check check) {
        FleetWaves fleet = oneOfThreeIsBad(check);
        check.that("1/1", fleet.rule(1, 1, 1), 0);
        check.that("1/2", fleet.rule(1, 1, 2), 0);
        check.that("1/3", fleet.rule(1, 1, 3), 0);
        check.that("the same as 1/3", fleet.rule(1, 357913941L, 1073741823L), 0);
        check.that("running", fleet.state(1), 1);
        check.that("a little less", fleet.rule(1, 357913941L, 1073741824L), 1);
        check.that("paused", fleet.state(1), 2);
        check.that("paused already", fleet.rule(1, 0, 1), 0);
        check.that("a greater rule", fleet.rule(1, 1, 1), 0);
        check.that("still paused", fleet.state(1), 2);
        fleet.wave(1, 1, 1, 0);
        check.that("at once again", fleet.rule(1, 0, 1), 1);
    }

    private static void refusedRulesAreNotKept(Check check) {
        FleetWaves fleet = oneOfThreeIsBad(check);
        check.that("1/1", fleet.rule(1, 1, 1), 0);
        check.that("refused", fleet.rule(1, -1, 1), -2);
        check.that("refused", fleet.rule(1, 0, (1L << 30) + 1), -2);
        check.reported(fleet, 4, 0, 1, false);
        check.that("the rule is 1/1", fleet.state(1), 1);
    }

    private static void notRunning(Check check) {
        FleetWaves fleet = oneOfThreeIsBad(check);
        fleet.stop(1);
        check.that("stopped", fleet.rule(1, 0, 1), 0);
        check.that("it stays stopped", fleet.state(1), 3);

        FleetWaves running = Check.fleet(1);
        running.campaign(0, 1);
        running.wave(1, 1, 1, 0);
        check.that("no reports", running.rule(1, 0, 1), 0);
        check.that("running", running.state(1), 1);
    }
}
