/** Promise 7: share. */
public final class Promise07ShareTest {
    public static void main(String[] args) {
        Check check = new Check();
        refusals(check);
        noReports(check);
        lowestTerms(check);
        sides(check);
        ofTheCampaignAlone(check);
        check.end();
    }

    private static void refusals(Check check) {
        FleetWaves fleet = new FleetWaves();
        fleet.campaign(0, 1);
        check.that("no campaign 0", fleet.share(0, 0), -1);
        check.that("no campaign 2", fleet.share(2, 1), -1);
        check.that("no campaign MIN", fleet.share(Integer.MIN_VALUE, 0), -1);
        check.that("no campaign MAX", fleet.share(Integer.MAX_VALUE, 0), -1);
    }

    private static void noReports(Check check) {
        FleetWaves fleet = Check.fleet(1);
        fleet.campaign(0, 1);
        check.shareThrows("new, above", fleet, 1, 0);
        check.shareThrows("new, below", fleet, 1, 1);
        fleet.wave(1, 1, 1, 0);
        fleet.due(1, 0);
        check.shareThrows("begun", fleet, 1, 0);
        fleet.report(1, 1, true);
        check.that("above", fleet.share(1, 0), 0);
        check.that("below", fleet.share(1, 1), 1);
    }

    private static void lowestTerms(Check check) {
        FleetWaves fleet = Check.fleet(24);
        fleet.campaign(0, 1);
        fleet.wave(1, 1, 1, 0);
        int bad = 0;
        for (int car = 1; car <= 24; car++) {
            boolean good = car % 4 != 0 && car != 18 && car != 21;
            check.reported(fleet, car, 0, 1, good);
            bad += good ? 0 : 1;
            int divisor = commonDivisor(bad, car);
            check.that(bad + " of " + car + ", above", fleet.share(1, 0), bad / divisor);
            check.that(bad + " of " + car + ", below", fleet.share(1, 1), car / divisor);
        }
        check.that("8 of 24, above", fleet.share(1, 0), 1);
        check.that("8 of 24, below", fleet.share(1, 1), 3);
    }

    private static int commonDivisor(int first, int second) {
        for (int divisor = second; divisor > 1; divisor--) {
            if (first % divisor == 0 && second % divisor == 0) {
                return divisor;
            }
        }
        return 1;
    }

    private static void sides(Check check) {
        FleetWaves fleet = Check.fleet(1);
        fleet.campaign(0, 1);
        fleet.wave(1, 1, 1, 0);
        check.reported(fleet, 1, 0, 1, false);
        check.that("1/1, above", fleet.share(1, 0), 1);
        check.that("1/1, below", fleet.share(1, 1), 1);
        check.reported(fleet, 1, 100, 1, true);
        int[] others = {1, 2, -1, Integer.MAX_VALUE, Integer.MIN_VALUE};
        for (int side : others) {
            check.that("side " + side, fleet.share(1, side), 2);
        }
        check.that("side 0", fleet.share(1, 0), 1);
    }

    private static void ofTheCampaignAlone(Check check) {
        FleetWaves fleet = Check.fleet(1);
        fleet.campaign(0, 1);
        fleet.campaign(1, 1);
        fleet.wave(1, 1, 1, 0);
        check.reported(fleet, 1, 0, 1, false);
        check.shareThrows("the other one", fleet, 2, 1);
        fleet.stop(1);
        check.that("of a stopped one", fleet.share(1, 1), 1);
    }
}
