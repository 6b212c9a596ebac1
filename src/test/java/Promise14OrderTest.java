/** Promise 14: order, with the Terms' BEFORE. */
public final class Promise14OrderTest {
    public static void main(String[] args) {
        Check check = new Check();
        refusals(check);
        told(check);
        byEdition(check);
        bySomeInBetween(check);
        newCampaignInBetween(check);
        longChain(check);
        zeroChangesNothing(check);
        check.end();
    }

    private static FleetWaves campaignsOfParts(int count) {
        FleetWaves fleet = Check.fleet(1);
        for (int part = 0; part < count; part++) {
            fleet.campaign(part, 1);
        }
        return fleet;
    }

    private static void refusals(Check check) {
        FleetWaves fleet = campaignsOfParts(2);
        check.that("no campaign 0", fleet.order(0, 1), -1);
        check.that("no other 0", fleet.order(1, 0), -1);
        check.that("no campaign 3", fleet.order(3, 1), -1);
        check.that("no other 3", fleet.order(1, 3), -1);
        check.that("both 3", fleet.order(3, 3), -1);
        check.that("MIN and MAX", fleet.order(Integer.MIN_VALUE, Integer.MAX_VALUE), -1);
        check.that("they are one", fleet.order(2, 2), -2);
    }

    private static void told(Check check) {
        FleetWaves fleet = campaignsOfParts(2);
        check.that("2 before 1", fleet.order(1, 2), 1);
        check.that("again", fleet.order(1, 2), 1);
        check.that("1 before 2", fleet.order(2, 1), 0);
        fleet.stop(2);
        check.that("stopped or not", fleet.order(2, 1), 0);
    }

    private static void byEdition(Check check) {
        FleetWaves fleet = new FleetWaves();
        fleet.campaign(0, 5);
        fleet.campaign(8192, 4);
        check.that("4 before 5", fleet.order(1, 2), 1);
        check.that("5 before 4", fleet.order(2, 1), 0);
        fleet.campaign(1, 6);
        check.that("another part", fleet.order(2, 3), 1);
    }

    private static void bySomeInBetween(Check check) {
        FleetWaves fleet = campaignsOfParts(4);
        fleet.campaign(1, 9);
        // 1 before 2 (told), 2 before 5 (editions of part 1), 5 before 3 (told).
        check.that("1 before 2", fleet.order(2, 1), 1);
        check.that("5 before 3", fleet.order(3, 5), 1);
        check.that("3 before 1", fleet.order(1, 3), 0);
        check.that("5 before 1", fleet.order(1, 5), 0);
        check.that("3 before 2", fleet.order(2, 3), 0);
        check.that("1 before 3", fleet.order(3, 1), 1);
        check.that("4 before 1", fleet.order(1, 4), 1);
        check.that("3 before 4", fleet.order(4, 3), 0);
    }

    private static void newCampaignInBetween(Check check) {
        FleetWaves fleet = new FleetWaves();
        fleet.campaign(0, 1);
        fleet.campaign(0, 9);
        fleet.campaign(1, 1);
        check.that("2 before 3", fleet.order(3, 2), 1);
        fleet.campaign(0, 5);
        check.that("3 before the new one", fleet.order(4, 3), 0);
        check.that("3 before 1", fleet.order(1, 3), 0);
        check.that("the new one before 3", fleet.order(3, 4), 1);
    }

    private static void longChain(Check check) {
        int[] parts = {0, 1, 2, 3, 4, 5, 6, 7};
        FleetWaves down = campaignsOfParts(8);
        FleetWaves up = campaignsOfParts(8);
        for (int n = 1; n < parts.length; n++) {
            check.that("later numbers first", down.order(n, n + 1), 1);
            check.that("earlier numbers first", up.order(n + 1, n), 1);
        }
        check.that("1 before 8", down.order(8, 1), 0);
        check.that("8 before 1", up.order(1, 8), 0);
    }

    private static void zeroChangesNothing(Check check) {
        FleetWaves fleet = campaignsOfParts(2);
        fleet.order(2, 1);
        check.that("refused", fleet.order(1, 2), 0);
        fleet.wave(1, 1, 1, 0);
        fleet.wave(2, 1, 1, 0);
        check.reported(fleet, 1, 0, 1, true);
        check.reported(fleet, 1, 0, 2, true);
    }
}
