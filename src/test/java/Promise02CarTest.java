/** Promise 2: car. */
public final class Promise02CarTest {
    public static void main(String[] args) {
        Check check = new Check();
        numbersAndRanges(check);
        allPartsHaveTheEdition(check);
        refusalsInTheirOrder(check);
        check.end();
    }

    private static void numbersAndRanges(Check check) {
        FleetWaves fleet = new FleetWaves();
        check.that("number 0", fleet.car(0, 0), -2);
        check.that("number -1", fleet.car(-1, 0), -2);
        check.that("number Long.MIN_VALUE", fleet.car(Long.MIN_VALUE, 0), -2);
        check.that("edition -1", fleet.car(1, -1), -2);
        check.that("edition 1001", fleet.car(1, 1001), -2);
        check.that("edition Integer.MIN_VALUE", fleet.car(1, Integer.MIN_VALUE), -2);
        check.that("edition Integer.MAX_VALUE", fleet.car(1, Integer.MAX_VALUE), -2);
        check.that("edition 0", fleet.car(1, 0), 1);
        check.that("edition 1000", fleet.car(2, 1000), 2);
        check.that("greatest number", fleet.car(Long.MAX_VALUE, 5), 3);
        check.that("number 2^32 + 1", fleet.car((1L << 32) + 1, 5), 4);
        check.that("same number", fleet.car(Long.MAX_VALUE, 6), -3);
        check.that("number of the first car", fleet.car(1, 6), -3);
        check.that("range before state", fleet.car(1, 1001), -2);
        check.that("after refusals", fleet.car(3, 5), 5);
    }

    private static void allPartsHaveTheEdition(Check check) {
        FleetWaves fleet = new FleetWaves();
        fleet.car(1, 4);
        for (int part = 0; part < 8; part++) {
            int same = fleet.campaign(part, 4);
            int next = fleet.campaign(part, 5);
            fleet.wave(same, 1, 1, 0);
            fleet.wave(next, 1, 1, 0);
            check.that("edition 4 of part " + part, fleet.in(same, 1), 0);
            check.that("edition 5 of part " + part, fleet.in(next, 1), 1);
        }
    }

    private static void refusalsInTheirOrder(Check check) {
        FleetWaves fleet = new FleetWaves();
        for (int n = 1; n <= 500; n++) {
            check.that("car " + n, fleet.car(n, 0), n);
        }
        check.that("car 501", fleet.car(501, 0), -4);
        check.that("a present number of 500", fleet.car(500, 0), -3);
        check.that("a bad number of 500", fleet.car(0, 0), -2);
        check.that("the last car", fleet.consent(500, true), 0);
        check.that("no car 501", fleet.consent(501, true), -1);
    }
}
