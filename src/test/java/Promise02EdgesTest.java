/** Promise 2 by its sentences: each edge of car from inside and from outside. */
public final class Promise02EdgesTest {
    private static final String PROMISE = "Promise 2";

    public static void main(String[] args) {
        Check check = new Check();
        run(check);
        check.end();
    }

    static void run(Check check) {
        numberedFromOneOn(check);
        allPartsOfOneEdition(check);
        numberBelowOne(check);
        editionOutside(check);
        numberIsThere(check);
        fiveHundred(check);
        firstThatFits(check);
    }

    private static void numberedFromOneOn(Check check) {
        check.sentence(PROMISE, "A car, all its parts of one edition: its number from 1 on.");
        FleetWaves fleet = new FleetWaves();
        check.that("first", fleet.car(900, 3), 1);
        check.that("refused", fleet.car(0, 3), -2);
        check.that("refused", fleet.car(900, 3), -3);
        check.that("second, behind refused ones", fleet.car(5, 0), 2);
        check.that("no car 0", fleet.failed(0), -1);
        check.that("car 1", fleet.failed(1), 0);
        check.that("car 2", fleet.failed(2), 0);
        check.that("no car 3", fleet.failed(3), -1);
    }

    private static void allPartsOfOneEdition(Check check) {
        check.sentence(PROMISE, "and eight PARTS, 0 .. 7, each with an EDITION.");
        for (int edition : new int[] {1, 500, 999}) {
            FleetWaves fleet = new FleetWaves();
            fleet.car(77, edition);
            for (int part = 0; part < 8; part++) {
                int same = fleet.campaign(part, edition);
                int next = fleet.campaign(part, edition + 1);
                fleet.wave(same, 1, 1, 0);
                fleet.wave(next, 1, 1, 0);
                check.that("part " + part + ", the car's edition", fleet.in(same, 1), 0);
                check.that("part " + part + ", one more", fleet.in(next, 1), 1);
            }
        }
    }

    private static void numberBelowOne(Check check) {
        check.sentence(PROMISE, "-2 the NUMBER is below 1");
        Unchanged.lively(check)
                .by("car(0, 0)", f -> f.car(0, 0), -2)
                .by("car(-1, 0)", f -> f.car(-1, 0), -2)
                .by("car(-2^32, 0)", f -> f.car(-1L << 32, 0), -2)
                .by("car(-2^63, 1000)", f -> f.car(Long.MIN_VALUE, 1000), -2);
        FleetWaves fleet = new FleetWaves();
        check.that("car(0, 0)", fleet.car(0, 0), -2);
        check.that("car(1, 0)", fleet.car(1, 0), 1);
        check.sentence(PROMISE, "each with a NUMBER of its own (above 0)");
        check.that("car(2^31, 0)", fleet.car(1L << 31, 0), 2);
        check.that("car(2^32, 0)", fleet.car(1L << 32, 0), 3);
        check.that("car(2^63 - 1, 0)", fleet.car(Long.MAX_VALUE, 0), 4);
        check.that("car(2^63 wrapped, 0)", fleet.car(Long.MAX_VALUE + 1, 0), -2);
    }

    private static void editionOutside(Check check) {
        check.sentence(PROMISE, "or the edition not 0 .. 1000");
        Unchanged.lively(check)
                .by("car(5, -1)", f -> f.car(5, -1), -2)
                .by("car(5, 1001)", f -> f.car(5, 1001), -2)
                .by("car(5, MIN)", f -> f.car(5, Integer.MIN_VALUE), -2)
                .by("car(5, MAX)", f -> f.car(5, Integer.MAX_VALUE), -2);
        FleetWaves fleet = new FleetWaves();
        fleet.campaign(0, 1);
        fleet.campaign(1, 1000);
        fleet.wave(1, 1, 1, 0);
        fleet.wave(2, 1, 1, 0);
        check.that("car(5, -1)", fleet.car(5, -1), -2);
        check.that("car(5, 0), whose number was not taken", fleet.car(5, 0), 1);
        check.that("edition 0 is below 1", fleet.in(1, 1), 1);
        check.that("car(6, 1001)", fleet.car(6, 1001), -2);
        check.that("car(6, 1000)", fleet.car(6, 1000), 2);
        check.that("edition 1000 is not below 1000", fleet.in(2, 1), 1);
        check.that("car(7, 999)", fleet.car(7, 999), 3);
        check.that("edition 999 is", fleet.in(2, 1), 2);
    }

    private static void numberIsThere(Check check) {
        check.sentence(PROMISE, "-3 there is a car of that NUMBER");
        Unchanged.lively(check)
                .by("car(1, 0)", f -> f.car(1, 0), -3)
                .by("car(4, 1000)", f -> f.car(4, 1000), -3);
        FleetWaves fleet = new FleetWaves();
        check.that("car(50, 0)", fleet.car(50, 0), 1);
        check.that("car(49, 0)", fleet.car(49, 0), 2);
        check.that("car(51, 0)", fleet.car(51, 0), 3);
        check.that("car(50, 1)", fleet.car(50, 1), -3);
        check.that("50 + 2^32", fleet.car(50 + (1L << 32), 0), 4);
        check.that("50 + 2^62", fleet.car(50 + (1L << 62), 0), 5);
        check.that("50 + 2^32 again", fleet.car(50 + (1L << 32), 0), -3);
    }

    private static void fiveHundred(Check check) {
        check.sentence(PROMISE, "-4 there are 500");
        FleetWaves fleet = Check.fleet(499);
        check.that("no car 500 yet", fleet.failed(500), -1);
        check.that("car 500", fleet.car(500, 0), 500);
        check.that("one more", fleet.car(501, 0), -4);
        check.that("once more: its number was not taken", fleet.car(501, 0), -4);
        check.that("greatest number", fleet.car(Long.MAX_VALUE, 1000), -4);
        check.sentence(PROMISE, "CARS are numbered from 1 on, at most 500");
        check.that("car 500", fleet.failed(500), 0);
        check.that("no car 501", fleet.failed(501), -1);
        fleet.campaign(0, 1);
        fleet.wave(1, 1, 1, 0);
        check.that("500 cars are meant", fleet.in(1, 1), 500);
        check.that("500 cars have not begun", fleet.stop(1), 500);
    }

    private static void firstThatFits(Check check) {
        check.sentence(PROMISE, "answer, the first that fits:");
        FleetWaves fleet = Check.fleet(499);
        check.that("-2, not -3", fleet.car(7, 1001), -2);
        check.that("-2, not -3", fleet.car(7, -1), -2);
        fleet.car(500, 0);
        check.that("-2, not -4, number", fleet.car(0, 0), -2);
        check.that("-2, not -4, edition", fleet.car(501, 1001), -2);
        check.that("-2, not -3 nor -4", fleet.car(500, 1001), -2);
        check.that("-3, not -4, the first car's number", fleet.car(1, 0), -3);
        check.that("-3, not -4, the last car's number", fleet.car(500, 0), -3);
    }
}
