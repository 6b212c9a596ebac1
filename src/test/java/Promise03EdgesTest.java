/** Promise 3 by its sentences: each edge of campaign, of formulas and of MEANT. */
public final class Promise03EdgesTest {
    private static final String PROMISE = "Promise 3";

    public static void main(String[] args) {
        Check check = new Check();
        run(check);
        check.end();
    }

    static void run(Check check) {
        numberedFromOneOn(check);
        twin(check);
        noFormula(check);
        editionOutside(check);
        forty(check);
        firstThatFits(check);
        partOfAFormula(check);
        modulusAndRemainder(check);
        meantByNumber(check);
        meantByEdition(check);
    }

    private static void numberedFromOneOn(Check check) {
        check.sentence(PROMISE, "A campaign: its number");
        FleetWaves fleet = new FleetWaves();
        check.that("refused", fleet.campaign(-1, 1), -2);
        check.that("first", fleet.campaign(0, 1), 1);
        check.that("none", fleet.campaign(0, 1), 0);
        check.that("second, behind one that is none", fleet.campaign(0, 2), 2);
        check.that("no campaign 0", fleet.state(0), -1);
        check.that("no campaign 3", fleet.state(3), -1);
    }

    private static void twin(Check check) {
        check.sentence(PROMISE, "0 (and there is none) if there is one of that PART and EDITION.");
        Unchanged.lively(check)
                .by("that of a running one", f -> f.campaign(0, 1), 0)
                .by("that of a new one, for other cars", f -> f.campaign(Check.formula(0, 7, 3), 3), 0)
                .by("that of a paused one", f -> f.campaign(Check.formula(2, 1024, 1023), 4), 0)
                .by("that of a stopped one", f -> f.campaign(3, 9), 0);
        FleetWaves fleet = new FleetWaves();
        check.that("part 3, edition 7", fleet.campaign(3, 7), 1);
        check.that("part 3 of another formula", fleet.campaign(Check.formula(3, 2, 0), 7), 0);
        check.that("part 3 of a third formula", fleet.campaign(Check.formula(3, 1, 1), 7), 0);
        check.that("edition 6", fleet.campaign(3, 6), 2);
        check.that("edition 8", fleet.campaign(3, 8), 3);
        check.that("part 2", fleet.campaign(2, 7), 4);
        check.that("part 4", fleet.campaign(4, 7), 5);
        check.that("part 3, edition 7, still", fleet.campaign(3, 7), 0);
    }

    private static void noFormula(Check check) {
        check.sentence(PROMISE, "-2 the formula is none");
        Unchanged.lively(check)
                .by("formula -1", f -> f.campaign(-1, 500), -2)
                .by("formula -8", f -> f.campaign(-8, 500), -2)
                .by("formula 8388608", f -> f.campaign(8388608, 500), -2)
                .by("formula MIN", f -> f.campaign(Integer.MIN_VALUE, 500), -2)
                .by("formula MAX", f -> f.campaign(Integer.MAX_VALUE, 500), -2);
        check.sentence(PROMISE, "a FORMULA f, a number from 0 to 8388607, and an EDITION.");
        FleetWaves fleet = new FleetWaves();
        check.that("formula -1", fleet.campaign(-1, 5), -2);
        check.that("formula 0", fleet.campaign(0, 5), 1);
        check.that("formula 8388608", fleet.campaign(8388608, 5), -2);
        check.that("formula 8388607", fleet.campaign(8388607, 5), 2);
    }

    private static void editionOutside(Check check) {
        check.sentence(PROMISE, "or the edition not 1 .. 1000");
        Unchanged.lively(check)
                .by("edition 0", f -> f.campaign(0, 0), -2)
                .by("edition -1", f -> f.campaign(0, -1), -2)
                .by("edition 1001", f -> f.campaign(0, 1001), -2)
                .by("edition MIN", f -> f.campaign(0, Integer.MIN_VALUE), -2)
                .by("edition MAX", f -> f.campaign(0, Integer.MAX_VALUE), -2);
        FleetWaves fleet = new FleetWaves();
        check.that("edition 0", fleet.campaign(0, 0), -2);
        check.that("edition 1", fleet.campaign(0, 1), 1);
        check.that("edition 1001", fleet.campaign(0, 1001), -2);
        check.that("edition 1000", fleet.campaign(0, 1000), 2);
    }

    /** Editions 101 .. of the part 0 behind the five of the lively fleet. */
    private static FleetWaves livelyFleetWith(int campaigns) {
        FleetWaves fleet = Unchanged.livelyFleet();
        for (int n = 6; n <= campaigns; n++) {
            fleet.campaign(0, 95 + n);
        }
        return fleet;
    }

    private static void forty(Check check) {
        check.sentence(PROMISE, "-4 there are 40");
        FleetWaves fleet = livelyFleetWith(39);
        check.that("no campaign 40 yet", fleet.state(40), -1);
        check.that("campaign 40", fleet.campaign(7, 1), 40);
        check.that("one more", fleet.campaign(7, 2), -4);
        check.that("once more", fleet.campaign(7, 2), -4);
        new Unchanged(check, () -> livelyFleetWith(40), 10)
                .by("edition 2 of part 0, before the new one", f -> f.campaign(0, 2), -4)
                .by("edition 1 of part 2, before the paused one", f -> f.campaign(2, 1), -4)
                .by("edition 1000 of part 0", f -> f.campaign(0, 1000), -4);
        check.sentence(PROMISE, "CAMPAIGNS are numbered from 1 on, at most 40:");
        check.that("campaign 40", fleet.state(40), 0);
        check.that("no campaign 41", fleet.state(41), -1);
        check.that("order of the last two", fleet.order(40, 39), 1);
        check.that("order the other way", fleet.order(39, 40), 0);
        check.that("wave of the last one", fleet.wave(40, 1, 1, 10), 1);
        check.that("its cars", fleet.in(40, 1), 3);
    }

    private static void firstThatFits(Check check) {
        check.sentence(PROMISE, "answer, the first that fits:");
        FleetWaves fleet = livelyFleetWith(39);
        check.that("0 of 39", fleet.campaign(0, 1), 0);
        check.that("-2, not 0", fleet.campaign(8388608, 1), -2);
        fleet.campaign(7, 1);
        check.that("-2, not -4, formula", fleet.campaign(-1, 500), -2);
        check.that("-2, not -4, edition", fleet.campaign(0, 1001), -2);
        // The document's words leave this one open; a refusal goes first here as everywhere.
        check.that("-4, not 0", fleet.campaign(0, 1), -4);
    }

    private static void partOfAFormula(Check check) {
        check.sentence(PROMISE, "Its PART is f modulo 8;");
        FleetWaves fleet = new FleetWaves();
        for (int part = 0; part < 8; part++) {
            check.that("part " + part, fleet.campaign(part, 5), part + 1);
        }
        for (int part = 0; part < 8; part++) {
            check.that("8 more than part " + part, fleet.campaign(part + 8, 5), 0);
            check.that("8184 more than part " + part, fleet.campaign(part + 8184, 5), 0);
            check.that("8192 more than part " + part, fleet.campaign(part + 8192, 5), 0);
            check.that("the last formula of part " + part, fleet.campaign(part + 8388600, 5), 0);
        }
    }

    /** Which of these cars a formula means, as bits, the first car's bit being 1. */
    private static int meant(int formula, long... numbers) {
        int bits = 0;
        for (int i = 0; i < numbers.length; i++) {
            FleetWaves fleet = new FleetWaves();
            fleet.car(numbers[i], 0);
            fleet.campaign(formula, 1);
            fleet.wave(1, 1, 1, 0);
            bits |= fleet.in(1, 1) << i;
        }
        return bits;
    }

    private static void modulusAndRemainder(Check check) {
        check.sentence(PROMISE, "m is 1 + f / 8 modulo 1024, k is f / 8192.");
        check.that("f 7: m 1, k 0", meant(7, 1, 2, 3), 0b111);
        check.that("f 8: m 2, k 0", meant(8, 1, 2, 3, 4), 0b1010);
        check.that("f 15: m 2, k 0", meant(15, 1, 2, 3, 4), 0b1010);
        check.that("f 16: m 3, k 0", meant(16, 1, 2, 3, 4), 0b100);
        check.that("f 8183: m 1023, k 0", meant(8183, 1022, 1023, 1024, 2046), 0b1010);
        check.that("f 8184: m 1024, k 0", meant(8184, 1023, 1024, 1025, 2048), 0b1010);
        check.that("f 8191: m 1024, k 0", meant(8191, 1023, 1024, 1025, 2048), 0b1010);
        check.that("f 8192: m 1 again, k 1", meant(8192, 1, 2, 1024, 1025), 0b1111);
        check.that("f 8200: m 2, k 1", meant(8200, 1, 2, 3, 4), 0b101);
        check.that("f 16376: m 1024, k 1", meant(16376, 1, 2, 1024, 1025), 0b1001);
        check.that("f 8380416: m 1, k 1023", meant(8380416, 1, 2, 1023), 0b111);
        check.that("f 8388607: m 1024, k 1023", meant(8388607, 1022, 1023, 1024, 2047), 0b1010);
    }

    private static void meantByNumber(Check check) {
        check.sentence(PROMISE, "It is MEANT for a car whose NUMBER modulo m is k modulo m,");
        check.that("m 3, k 2", meant(Check.formula(0, 3, 2), 1, 2, 3, 4, 5), 0b10010);
        check.that("m 3, k 3", meant(Check.formula(0, 3, 3), 1, 2, 3, 4, 6), 0b10100);
        check.that("m 3, k 4", meant(Check.formula(0, 3, 4), 1, 2, 3, 4, 5), 0b01001);
        check.that("m 1023, k 1023", meant(Check.formula(0, 1023, 1023), 1, 1022, 1023, 1024), 0b100);
        check.that("m 1000, k 1023", meant(Check.formula(0, 1000, 1023), 22, 23, 24, 1023), 0b1010);
        long[] great = {Long.MAX_VALUE - 1, Long.MAX_VALUE, 1L << 62, (1L << 32) + 1};
        // 2^63 - 1 is 1023 modulo 1024 and 1 modulo 3; 2^62 is 0 and 1; 2^32 + 1 is 1 and 2.
        check.that("m 1024, k 1023, great", meant(Check.formula(0, 1024, 1023), great), 0b0010);
        check.that("m 1024, k 0, great", meant(Check.formula(0, 1024, 0), great), 0b0100);
        check.that("m 1024, k 1, great", meant(Check.formula(0, 1024, 1), great), 0b1000);
        check.that("m 3, k 1, great", meant(Check.formula(0, 3, 1), great), 0b0110);
    }

    private static void meantByEdition(Check check) {
        check.sentence(PROMISE, "and whose EDITION of that PART is less than the campaign's.");
        for (int edition : new int[] {1, 2, 500, 1000}) {
            FleetWaves fleet = new FleetWaves();
            fleet.campaign(5, edition);
            fleet.wave(1, 1, 1, 0);
            fleet.car(1, edition);
            check.that("as great", fleet.in(1, 1), 0);
            fleet.car(2, edition - 1);
            check.that("one less", fleet.in(1, 1), 1);
            fleet.car(3, Math.min(edition + 1, 1000));
            check.that("greater", fleet.in(1, 1), 1);
            fleet.car(4, 0);
            check.that("the least", fleet.in(1, 1), 2);
            check.reported(fleet, 2, 0, 1, true);
            check.that("it has that edition now", fleet.in(1, 1), 1);
        }
        FleetWaves parts = new FleetWaves();
        parts.car(1, 0);
        parts.campaign(5, 2);
        parts.campaign(6, 1);
        parts.wave(1, 1, 1, 0);
        parts.wave(2, 1, 1, 0);
        check.reported(parts, 1, 0, 1, true);
        check.that("another part keeps its edition", parts.in(2, 1), 1);
    }
}
