/** Promise 6: report. */
public final class Promise06ReportTest {
    public static void main(String[] args) {
        Check check = new Check();
        refusals(check);
        goodReport(check);
        badReport(check);
        ruleBehindReport(check);
        ruleIsExact(check);
        ruleNeedsRunning(check);
        check.end();
    }

    private static void refusals(Check check) {
        FleetWaves fleet = Check.fleet(2);
        fleet.campaign(0, 1);
        fleet.campaign(1, 1);
        fleet.wave(1, 1, 1, 0);
        fleet.due(1, 0);
        check.that("no car 0", fleet.report(0, 1, true), -1);
        check.that("no car 3", fleet.report(3, 1, true), -1);
        check.that("no campaign 0", fleet.report(1, 0, true), -1);
        check.that("no campaign 0, nothing begun", fleet.report(2, 0, true), -1);
        check.that("no campaign 3", fleet.report(1, 3, true), -1);
        check.that("neither", fleet.report(Integer.MAX_VALUE, Integer.MIN_VALUE, false), -1);
        check.that("other campaign", fleet.report(1, 2, true), -3);
        check.that("other car", fleet.report(2, 1, false), -3);
        check.shareThrows("no report was taken", fleet, 1, 0);
        check.that("failed", fleet.failed(2), 0);
        check.that("begun", fleet.report(1, 1, true), 1);
        check.that("not any more", fleet.report(1, 1, true), -3);
    }

    private static void goodReport(Check check) {
        FleetWaves fleet = Check.fleet(2);
        fleet.campaign(3, 5);
        fleet.campaign(3, 6);
        fleet.campaign(4, 5);
        for (int n = 1; n <= 3; n++) {
            fleet.wave(n, 1, 1, 0);
            check.that("meant at first", fleet.in(n, 1), 2);
        }
        check.reported(fleet, 1, 0, 1, true);
        check.that("edition 5", fleet.in(1, 1), 1);
        check.that("edition 6", fleet.in(2, 1), 2);
        check.that("other part", fleet.in(3, 1), 2);
        check.reported(fleet, 1, 0, 2, true);
        check.that("edition 6", fleet.in(2, 1), 1);
        check.that("other part", fleet.in(3, 1), 2);
    }

    private static void badReport(Check check) {
        FleetWaves fleet = Check.fleet(2);
        fleet.campaign(0, 1);
        fleet.wave(1, 1, 1, 0);
        check.that("begun at 0", fleet.due(1, 0), 1);
        // What counts is the time told last, of whatever car.
        check.that("other car at 40", fleet.due(2, 40), 1);
        check.that("refused time", fleet.due(2, 39), -2);
        check.that("bad", fleet.report(1, 1, false), 1);
        check.that("not begun", fleet.report(1, 1, false), -3);
        check.that("still meant", fleet.in(1, 1), 2);
        check.that("at 139", fleet.due(1, 139), 0);
        check.that("at 140", fleet.due(1, 140), 1);
        check.that("good after bad", fleet.report(1, 1, true), 1);
        check.that("failed once", fleet.failed(1), 0);
        check.that("meant no more", fleet.in(1, 1), 1);
    }

    private static void ruleBehindReport(Check check) {
        FleetWaves fleet = Check.fleet(8);
        fleet.campaign(0, 1);
        fleet.rule(1, 1, 2);
        fleet.wave(1, 1, 1, 0);
        check.reported(fleet, 1, 0, 1, true);
        check.reported(fleet, 2, 0, 1, false);
        check.that("1/2 is not more than 1/2", fleet.state(1), 1);
        check.reported(fleet, 3, 0, 1, false);
        check.that("2/3 is", fleet.state(1), 2);
        fleet.wave(1, 1, 1, 0);
        check.that("running until the next report", fleet.state(1), 1);
        fleet.due(4, 0);
        fleet.due(5, 0);
        fleet.report(4, 1, true);
        check.that("2/4", fleet.state(1), 1);
        fleet.report(5, 1, false);
        check.that("3/5", fleet.state(1), 2);
        fleet.wave(1, 1, 1, 0);
        fleet.due(6, 0);
        fleet.rule(1, 1, 1);
        fleet.report(6, 1, false);
        check.that("another rule", fleet.state(1), 1);
        check.that("4/6 is not more than 2/3", fleet.rule(1, 2, 3), 0);
        check.that("4/6 is more than 1/2", fleet.rule(1, 1, 2), 1);
        fleet.wave(1, 1, 1, 0);
        check.reported(fleet, 7, 0, 1, true);
        check.that("4/7 behind a good report", fleet.state(1), 2);
        fleet.wave(1, 1, 1, 0);
        check.reported(fleet, 8, 0, 1, true);
        check.that("4/8", fleet.state(1), 1);
    }

    private static void ruleIsExact(Check check) {
        // 1/3 is 357913941 / 1073741823, and more than 357913941 / 1073741824.
        long[] downs = {1073741823L, 1073741824L};
        for (int i = 0; i < 2; i++) {
            FleetWaves fleet = Check.fleet(3);
            fleet.campaign(0, 1);
            fleet.rule(1, 357913941L, downs[i]);
            fleet.wave(1, 1, 1, 0);
            check.reported(fleet, 1, 0, 1, true);
            check.reported(fleet, 2, 0, 1, true);
            check.reported(fleet, 3, 0, 1, false);
            check.that("1/3 and the rule of " + downs[i], fleet.state(1), 1 + i);
        }
    }

    private static void ruleNeedsRunning(Check check) {
        FleetWaves fleet = Check.fleet(2);
        fleet.campaign(0, 1);
        fleet.rule(1, 0, 1);
        fleet.wave(1, 1, 1, 0);
        fleet.due(1, 0);
        fleet.stop(1);
        check.that("bad report on a stopped one", fleet.report(1, 1, false), 1);
        check.that("it stays stopped", fleet.state(1), 3);
        check.that("it counts", fleet.share(1, 1), 1);
    }
}
