/** Promise 7 by its sentences: each edge of share. */
public final class Promise07EdgesTest {
    private static final String PROMISE = "Promise 7";

    public static void main(String[] args) {
        Check check = new Check();
        run(check);
        check.end();
    }

    static void run(Check check) {
        lowestTerms(check);
        manyReports(check);
        sides(check);
        noCampaign(check);
        noReports(check);
        notByTheMachine(check);
        onlyReportsCount(check);
    }

    /** A campaign with so many bad reports, then so many good ones. */
    private static FleetWaves withReports(int bad, int good) {
        FleetWaves fleet = Check.running(bad + good);
        for (int car = 1; car <= bad + good; car++) {
            fleet.due(car, 0);
            fleet.report(car, 1, car > bad);
        }
        return fleet;
    }

    private static void lowestTerms(Check check) {
        check.sentence(PROMISE, "Bad reports / all reports of a campaign in lowest terms:");
        int[][] cases = {
            // bad, good, above, below
            {0, 1, 0, 1}, {0, 5, 0, 1}, {1, 0, 1, 1}, {5, 0, 1, 1}, {1, 1, 1, 2}, {1, 2, 1, 3},
            {2, 1, 2, 3}, {2, 2, 1, 2}, {2, 4, 1, 3}, {4, 2, 2, 3}, {3, 4, 3, 7}, {6, 9, 2, 5},
            {12, 6, 2, 3}, {8, 24, 1, 4}, {13, 21, 13, 34}, {35, 14, 5, 7},
        };
        for (int[] c : cases) {
            FleetWaves fleet = withReports(c[0], c[1]);
            check.that(c[0] + " bad, " + c[1] + " good, above", fleet.share(1, 0), c[2]);
            check.that(c[0] + " bad, " + c[1] + " good, below", fleet.share(1, 1), c[3]);
        }
    }

    private static void manyReports(Check check) {
        check.sentence(PROMISE, "Bad reports / all reports of a campaign in lowest terms:");
        // About as many as 512 calls leave room for: a car, its due and its report are three.
        FleetWaves fleet = withReports(72, 96);
        check.that("72 of 168, above", fleet.share(1, 0), 3);
        check.that("72 of 168, below", fleet.share(1, 1), 7);
        FleetWaves primes = withReports(89, 78);
        check.that("89 of 167, above", primes.share(1, 0), 89);
        check.that("89 of 167, below", primes.share(1, 1), 167);
    }

    private static void sides(Check check) {
        check.sentence(PROMISE, "side 0 what is above, or else what is below.");
        FleetWaves fleet = withReports(2, 4);
        check.that("side 0", fleet.share(1, 0), 1);
        for (int side : new int[] {1, 2, -1, 8, -8, Integer.MIN_VALUE, Integer.MAX_VALUE}) {
            check.that("side " + side, fleet.share(1, side), 3);
        }
    }

    private static void noCampaign(Check check) {
        check.sentence(PROMISE, "-1 there is none.");
        Unchanged.lively(check)
                .by("campaign 0", f -> Check.share(f, 0, 0), -1)
                .by("campaign 6", f -> Check.share(f, 6, 1), -1)
                .by("campaign -1", f -> Check.share(f, -1, 0), -1)
                .by("campaign MIN", f -> Check.share(f, Integer.MIN_VALUE, 0), -1)
                .by("campaign MAX", f -> Check.share(f, Integer.MAX_VALUE, 1), -1);
        FleetWaves fleet = Unchanged.livelyFleet();
        check.that("campaign 1: 1/2, above", fleet.share(1, 0), 1);
        check.that("campaign 1: 1/2, below", fleet.share(1, 1), 2);
        check.that("campaign 5: no reports", Check.share(fleet, 5, 0), Check.THROWS);
        fleet.campaign(7, 1);
        check.that("campaign 6, now that it is there", Check.share(fleet, 6, 0), Check.THROWS);
    }

    private static void noReports(Check check) {
        check.sentence(PROMISE, "ArithmeticException when there are no reports.");
        Unchanged.lively(check)
                .by("a new one, above", f -> Check.share(f, 2, 0), Check.THROWS)
                .by("a new one, below", f -> Check.share(f, 2, 1), Check.THROWS)
                .by("a running one", f -> Check.share(f, 3, 0), Check.THROWS)
                .by("a stopped one", f -> Check.share(f, 5, 7), Check.THROWS);
        FleetWaves fleet = Check.running(1);
        fleet.due(1, 0);
        check.that("begun, no report", Check.share(fleet, 1, 0), Check.THROWS);
        fleet.report(1, 1, true);
        check.that("one good report, above", fleet.share(1, 0), 0);
        check.that("one good report, below", fleet.share(1, 1), 1);
    }

    /** The class throws it by itself: a division by zero would be of the same kind. */
    private static void notByTheMachine(Check check) {
        check.sentence(PROMISE, "ArithmeticException when there are no reports.");
        try {
            check.that("share without reports", Check.running(1).share(1, 1), Check.THROWS);
        } catch (ArithmeticException due) {
            check.that("a division by zero", "/ by zero".equals(due.getMessage()) ? 1 : 0, 0);
        }
    }

    private static void onlyReportsCount(Check check) {
        check.sentence(PROMISE, "ArithmeticException when there are no reports.");
        FleetWaves fleet = Check.running(2);
        check.that("refused, not begun", fleet.report(1, 1, false), -3);
        check.that("refused, no car", fleet.report(3, 1, false), -1);
        check.that("refused ones do not count", Check.share(fleet, 1, 1), Check.THROWS);
        check.reported(fleet, 1, 0, 1, false);
        check.that("refused, not begun any more", fleet.report(1, 1, false), -3);
        check.that("one of one, below", fleet.share(1, 1), 1);
        check.reported(fleet, 1, 100, 1, true);
        check.that("a car's second report counts", fleet.share(1, 1), 2);
    }
}
