/** Promise 3: campaign, and the Terms' MEANT. */
public final class Promise03CampaignTest {
    public static void main(String[] args) {
        Check check = new Check();
        ranges(check);
        twins(check);
        fullHouse(check);
        meantByNumber(check);
        greatFormula(check);
        meantByEdition(check);
        check.end();
    }

    private static void ranges(Check check) {
        FleetWaves fleet = new FleetWaves();
        check.that("formula -1", fleet.campaign(-1, 1), -2);
        check.that("formula 8388608", fleet.campaign(8388608, 1), -2);
        check.that("formula MIN", fleet.campaign(Integer.MIN_VALUE, 1), -2);
        check.that("formula MAX", fleet.campaign(Integer.MAX_VALUE, 1), -2);
        check.that("edition 0", fleet.campaign(0, 0), -2);
        check.that("edition -1", fleet.campaign(0, -1), -2);
        check.that("edition 1001", fleet.campaign(0, 1001), -2);
        check.that("formula 0, edition 1", fleet.campaign(0, 1), 1);
        check.that("formula 8388607, edition 1000", fleet.campaign(8388607, 1000), 2);
        check.that("state of a new one", fleet.state(2), 0);
        check.that("no third one", fleet.state(3), -1);
    }

    private static void twins(Check check) {
        FleetWaves fleet = new FleetWaves();
        check.that("first", fleet.campaign(3, 7), 1);
        check.that("same part and edition", fleet.campaign(3, 7), 0);
        check.that("same part, other modulus", fleet.campaign(3 + 8 * 5, 7), 0);
        check.that("same part, other k", fleet.campaign(3 + 8192 * 5, 7), 0);
        check.that("there is none of these", fleet.state(2), -1);
        check.that("other edition", fleet.campaign(3, 8), 2);
        check.that("other part", fleet.campaign(4, 7), 3);
        fleet.stop(1);
        check.that("same as a stopped one", fleet.campaign(3, 7), 0);
    }

    private static void fullHouse(Check check) {
        FleetWaves fleet = new FleetWaves();
        for (int n = 1; n <= 40; n++) {
            check.that("campaign " + n, fleet.campaign(0, n), n);
        }
        check.that("campaign 41", fleet.campaign(0, 41), -4);
        check.that("a present one of 40", fleet.campaign(0, 40), -4);
        check.that("outside a range of 40", fleet.campaign(-1, 41), -2);
        check.that("the last one", fleet.state(40), 0);
        check.that("no campaign 41", fleet.state(41), -1);
    }

    private static int meantCars(FleetWaves fleet, int campaign) {
        fleet.wave(campaign, 1, 1, 0);
        return fleet.in(campaign, 1);
    }

    private static void meantByNumber(Check check) {
        FleetWaves fleet = Check.fleet(100);
        // Of 1 .. 100: 7, 14 .. 98; then 3, 10 .. 94; then k modulo m, 10 modulo 7 = 3 again.
        check.that("k 0, m 7", meantCars(fleet, fleet.campaign(Check.formula(1, 7, 0), 1)), 14);
        check.that("k 1, m 7", meantCars(fleet, fleet.campaign(Check.formula(2, 7, 1), 1)), 15);
        check.that("k 10, m 7", meantCars(fleet, fleet.campaign(Check.formula(3, 7, 10), 1)), 14);
        check.that("k 1023, m 7", meantCars(fleet, fleet.campaign(Check.formula(4, 7, 1023), 1)), 15);
        check.that("k 1023, m 1", meantCars(fleet, fleet.campaign(Check.formula(5, 1, 1023), 1)), 100);
        check.that("k 100, m 1024", meantCars(fleet, fleet.campaign(Check.formula(6, 1024, 100), 1)), 1);
        check.that("k 101, m 1024", meantCars(fleet, fleet.campaign(Check.formula(7, 1024, 101), 1)), 0);
        check.that("k 0, m 1024", meantCars(fleet, fleet.campaign(Check.formula(0, 1024, 0), 1)), 0);
    }

    private static void greatFormula(Check check) {
        FleetWaves fleet = new FleetWaves();
        fleet.car(1023, 0);
        fleet.car(2047, 0);
        fleet.car(1024, 0);
        fleet.car(Long.MAX_VALUE, 0);
        // Part 7, m 1024, k 1023: the first two, and 2^63 - 1, which is 1023 modulo 1024.
        check.that("formula 8388607", meantCars(fleet, fleet.campaign(8388607, 1000)), 3);
        check.that("due for 1023", fleet.due(1, 0), 1);
        check.that("due for 2047", fleet.due(2, 0), 1);
        check.that("due for 1024", fleet.due(3, 0), 0);
        check.that("due for 2^63 - 1", fleet.due(4, 0), 1);
    }

    private static void meantByEdition(Check check) {
        FleetWaves fleet = new FleetWaves();
        fleet.car(1, 4);
        fleet.car(2, 5);
        fleet.car(3, 6);
        check.that("edition 5", meantCars(fleet, fleet.campaign(2, 5)), 1);
        check.that("edition 6", meantCars(fleet, fleet.campaign(2, 6)), 2);
        check.that("edition 7", meantCars(fleet, fleet.campaign(2, 7)), 3);
    }
}
