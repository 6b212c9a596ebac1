/** Promise 13: in, with the Terms' DIGEST and IN. */
public final class Promise13InTest {
    private static final long GREATEST = 1L << 30;

    public static void main(String[] args) {
        Check check = new Check();
        refusals(check);
        manyCars(check);
        lessThanTheShare(check);
        exactBeyondDoubles(check);
        greatNumbers(check);
        meantOnly(check);
        check.end();
    }

    private static void refusals(Check check) {
        FleetWaves fleet = Check.fleet(1);
        fleet.campaign(0, 1);
        check.that("no campaign 0", fleet.in(0, 1), -1);
        check.that("no campaign 2", fleet.in(2, 1), -1);
        check.that("no wave yet", fleet.in(1, 1), -1);
        fleet.wave(1, 1, 1, 0);
        check.that("no wave 0", fleet.in(1, 0), -1);
        check.that("no wave 2", fleet.in(1, 2), -1);
        check.that("no wave MIN", fleet.in(1, Integer.MIN_VALUE), -1);
        check.that("no wave MAX", fleet.in(1, Integer.MAX_VALUE), -1);
        check.that("no campaign MIN", fleet.in(Integer.MIN_VALUE, 1), -1);
        check.that("wave 1", fleet.in(1, 1), 1);
    }

    /** The counts come from a program of its own (whole numbers of any size), not from the class. */
    private static void manyCars(Check check) {
        FleetWaves fleet = Check.fleet(400);
        fleet.campaign(0, 1);
        fleet.campaign(1, 1);
        fleet.wave(1, 0, GREATEST, 0);
        fleet.wave(1, 1, 3, 0);
        fleet.wave(1, 1, 2, 0);
        fleet.wave(1, 1, 1, 0);
        fleet.wave(2, 1, 10, 0);
        check.that("share 0", fleet.in(1, 1), 0);
        check.that("share 1/3", fleet.in(1, 2), 120);
        check.that("share 1/2", fleet.in(1, 3), 206);
        check.that("share 1", fleet.in(1, 4), 400);
        check.that("share 1/10 of campaign 2", fleet.in(2, 1), 40);
    }

    private static void lessThanTheShare(Check check) {
        FleetWaves fleet = new FleetWaves();
        fleet.car(5, 0);
        fleet.campaign(0, 1);
        // The digest is 3832918028, four times 958229507.
        fleet.wave(1, 958229507L, GREATEST, 0);
        fleet.wave(1, 958229508L, GREATEST, 0);
        check.that("as great as the share", fleet.in(1, 1), 0);
        check.that("less than the share", fleet.in(1, 2), 1);
    }

    private static void exactBeyondDoubles(Check check) {
        FleetWaves fleet = new FleetWaves();
        fleet.car(2, 0);
        fleet.campaign(0, 1);
        // digest * down + 1 = up * 2^32 here: doubles hold the two for equal.
        fleet.wave(1, 30220424L, 1047604451L, 0);
        check.that("a little less", fleet.in(1, 1), 1);

        FleetWaves other = new FleetWaves();
        other.car(4, 0);
        other.campaign(0, 1);
        // And here digest * down - 1 = up * 2^32.
        other.wave(1, 274520674L, 520190395L, 0);
        check.that("a little more", other.in(1, 1), 0);
    }

    private static void greatNumbers(Check check) {
        // Digests for campaign 1: 370804260, 3278336931 and 1118839705.
        long[] numbers = {Long.MAX_VALUE, 1L << 62, 1L << 40};
        long[] digests = {370804260L, 3278336931L, 1118839705L};
        for (int i = 0; i < numbers.length; i++) {
            FleetWaves fleet = new FleetWaves();
            fleet.car(numbers[i], 0);
            fleet.campaign(0, 1);
            fleet.wave(1, digests[i] / 4, GREATEST, 0);
            fleet.wave(1, digests[i] / 4 + 1, GREATEST, 0);
            check.that(numbers[i] + " below", fleet.in(1, 1), 0);
            check.that(numbers[i] + " above", fleet.in(1, 2), 1);
        }
    }

    private static void meantOnly(Check check) {
        FleetWaves fleet = Check.fleet(10);
        fleet.car(11, 9);
        fleet.campaign(Check.formula(0, 2, 1), 9);
        fleet.wave(1, 1, 1, 0);
        check.that("odd ones of a lesser edition", fleet.in(1, 1), 5);
        check.reported(fleet, 3, 0, 1, true);
        check.that("one less", fleet.in(1, 1), 4);
        check.that("begun", fleet.due(5, 0), 1);
        check.that("begun ones count", fleet.in(1, 1), 4);
        fleet.consent(7, false);
        check.that("those without consent too", fleet.in(1, 1), 4);
        fleet.stop(1);
        check.that("stopped ones too", fleet.in(1, 1), 4);
    }
}
