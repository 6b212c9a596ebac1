/** Promise 13 by its sentences: each edge of in, and of the Terms' DIGEST and IN. */
public final class Promise13EdgesTest {
    private static final String PROMISE = "Promise 13";
    private static final long DOWN = Check.GREATEST_DOWN;

    public static void main(String[] args) {
        Check check = new Check();
        run(check);
        check.end();
    }

    static void run(Check check) {
        howMany(check);
        oneOfItsWaves(check);
        meantOnly(check);
        noSuchCampaignOrWave(check);
        edgesOfDigests(check);
        digestOfTheCampaign(check);
        wrapping(check);
        lessThanTheShare(check);
        exactly(check);
    }

    private static void howMany(Check check) {
        check.sentence(PROMISE, "How many cars for which a campaign is MEANT are IN one of its waves.");
        FleetWaves none = new FleetWaves();
        none.campaign(0, 1);
        none.wave(1, 1, 1, 0);
        check.that("no cars", none.in(1, 1), 0);
        FleetWaves fleet = Check.fleet(500);
        fleet.campaign(0, 1);
        fleet.wave(1, 0, 1, 0);
        fleet.wave(1, 1, 1, 0);
        check.that("share 0 of 500", fleet.in(1, 1), 0);
        check.that("share 1 of 500", fleet.in(1, 2), 500);
    }

    private static void oneOfItsWaves(Check check) {
        check.sentence(PROMISE, "are IN one of its waves.");
        // Of 2^32, the digests of the cars 1 .. 4 for campaign 1: 0.797, 0.029, 0.331, 0.528.
        FleetWaves fleet = Check.fleet(4);
        fleet.campaign(0, 1);
        long[] hundredths = {2, 3, 33, 34, 52, 53, 79, 80};
        int[] due = {0, 1, 1, 2, 2, 3, 3, 4};
        for (int i = 0; i < due.length; i++) {
            fleet.wave(1, hundredths[i], 100, i);
        }
        for (int i = 0; i < due.length; i++) {
            check.that("share " + hundredths[i] + "/100", fleet.in(1, i + 1), due[i]);
        }
    }

    private static void meantOnly(Check check) {
        check.sentence(PROMISE, "How many cars for which a campaign is MEANT");
        FleetWaves fleet = Check.fleet(10);
        fleet.car(11, 9);
        fleet.car(13, 8);
        fleet.campaign(Check.formula(0, 2, 1), 9);
        fleet.wave(1, 1, 1, 0);
        check.that("1, 3, 5, 7, 9 and 13", fleet.in(1, 1), 6);
        check.that("begun", fleet.due(3, 0), 1);
        check.that("it is meant still", fleet.in(1, 1), 6);
        fleet.report(3, 1, true);
        check.that("it is not any more", fleet.in(1, 1), 5);
        check.reported(fleet, 5, 0, 1, false);
        check.that("failed", fleet.in(1, 1), 5);
        fleet.consent(7, false);
        check.that("no consent", fleet.in(1, 1), 5);
        fleet.stop(1);
        check.that("stopped", fleet.in(1, 1), 5);
    }

    private static void noSuchCampaignOrWave(Check check) {
        check.sentence(PROMISE, "-1 there is no such campaign or wave.");
        Unchanged.lively(check)
                .by("campaign 0", f -> f.in(0, 1), -1)
                .by("campaign 6", f -> f.in(6, 1), -1)
                .by("campaign MIN", f -> f.in(Integer.MIN_VALUE, 1), -1)
                .by("campaign MAX", f -> f.in(Integer.MAX_VALUE, 1), -1)
                .by("wave 0", f -> f.in(1, 0), -1)
                .by("wave -1", f -> f.in(1, -1), -1)
                .by("wave 2 of one", f -> f.in(1, 2), -1)
                .by("wave 1 of none", f -> f.in(2, 1), -1)
                .by("wave 1 of none, stopped", f -> f.in(5, 1), -1)
                .by("wave MIN", f -> f.in(1, Integer.MIN_VALUE), -1)
                .by("wave MAX", f -> f.in(1, Integer.MAX_VALUE), -1)
                .by("neither", f -> f.in(0, 0), -1);
        FleetWaves fleet = Unchanged.livelyFleet();
        check.that("wave 1 of campaign 1", fleet.in(1, 1), 1);
        check.that("wave 1 of campaign 4", fleet.in(4, 1), 4);
        fleet.wave(1, 1, 1, 10);
        check.that("wave 2, now that it is there", fleet.in(1, 2), 2);
        check.that("wave 3", fleet.in(1, 3), -1);
    }

    /** In how many of the two waves up / down and (up + 1) / down one car is, as bits. */
    private static int inWaves(long number, int campaign, long up, long down) {
        FleetWaves fleet = new FleetWaves();
        fleet.car(number, 0);
        for (int part = 0; part < campaign; part++) {
            fleet.campaign(part, 1);
        }
        fleet.wave(campaign, up, down, 0);
        fleet.wave(campaign, up + 1, down, 0);
        return fleet.in(campaign, 1) + 2 * fleet.in(campaign, 2);
    }

    private static void edgesOfDigests(Check check) {
        check.sentence(PROMISE, "The DIGEST of a car for a campaign, 0 .. 2^32 - 1:");
        // The numbers come from the digest's steps done backward, by a program of its own.
        check.that("0", inWaves(1190112520884487201L, 1, 0, DOWN), 2);
        check.that("1", inWaves(5206505737122528114L, 1, 0, DOWN), 2);
        check.that("2^31 - 1 and a half", inWaves(2046955025928834985L, 1, DOWN / 2, DOWN), 3);
        check.that("2^31 - 1 and less", inWaves(2046955025928834985L, 1, DOWN / 2 - 1, DOWN), 2);
        check.that("2^31 and a half", inWaves(6539630974588784953L, 1, DOWN / 2, DOWN), 2);
        check.that("2^31 and 1/2 and 2/2", inWaves(6539630974588784953L, 1, 1, 2), 2);
        check.that("2^31 - 1 and 1/2 and 2/2", inWaves(2046955025928834985L, 1, 1, 2), 3);
        check.that("2^32 - 2", inWaves(1858128788584090119L, 1, DOWN - 1, DOWN), 2);
        check.that("2^32 - 1", inWaves(3278235960551256476L, 1, DOWN - 1, DOWN), 2);
        check.that("2^32 - 1 and 0/1 and 1/1", inWaves(3278235960551256476L, 1, 0, 1), 2);
    }

    private static void digestOfTheCampaign(Check check) {
        check.sentence(PROMISE, "x = 31 NUMBER + campaign;");
        check.that("0 for campaign 2", inWaves(2380225041768974402L, 2, 0, DOWN), 2);
        check.that("2^32 - 1 for campaign 2", inWaves(4468348481435743677L, 2, DOWN - 1, DOWN), 2);
        check.that("2^31 - 1 for campaign 2", inWaves(3237067546813322186L, 2, 1, 2), 3);
        check.that("2^31 for campaign 2", inWaves(640265764918746468L, 2, 1, 2), 2);
        // Of 2^32: 0.797, then 0.013 and 0.609.
        check.that("car 1, campaign 1", inWaves(1, 1, 79, 100), 2);
        check.that("car 5, campaign 5", inWaves(5, 5, 1, 100), 2);
        check.that("car 5, campaign 4", inWaves(5, 4, 60, 100), 2);
    }

    private static void wrapping(Check check) {
        check.sentence(PROMISE, "then x xor (x moved to the right by 33, zeros coming in), times "
                + "-49064778989728563; again xor the same, times -4265267296055464877; "
                + "again xor the same; of that the upper 32 bits (all in 64 bits, wrapping).");
        // Each number with a share that its digest just does not fall below, though one less would,
        // and a share that it just falls below, though one more would not: by a program of its own
        // with whole numbers of any size. 31 times the numbers wraps, but for a few.
        long[][] rows = {
            {9223372036854775807L, 9675L, 112064L, 6959L, 80605L},
            {4611686018427387904L, 102449L, 134219L, 60086L, 78719L},
            {595056260442243601L, 58789L, 157738L, 55021L, 147628L},
            {595056260442243600L, 3222L, 48823L, 5431L, 82296L},
            {297528130221121801L, 45425L, 122351L, 21326L, 57441L},
            {297528130221121800L, 40160L, 90187L, 21763L, 48873L},
            {1099511627776L, 20083L, 77094L, 14656L, 56261L},
            {8589934592L, 9689L, 66180L, 18346L, 125311L},
            {1L, 62205L, 78029L, 69104L, 86683L},
        };
        for (long[] row : rows) {
            check.that("not below, " + row[0], inWaves(row[0], 1, row[1], row[2]) & 1, 0);
            check.that("below, " + row[0], inWaves(row[0], 1, row[3], row[4]) & 1, 1);
        }
    }

    private static void lessThanTheShare(Check check) {
        check.sentence(PROMISE, "A car is IN a wave if DIGEST / 2^32 is less than the SHARE (exactly).");
        FleetWaves fleet = new FleetWaves();
        fleet.car(5, 0);
        fleet.campaign(0, 1);
        // The digest is 3832918028, four times 958229507.
        fleet.wave(1, 958229506L, DOWN, 0);
        fleet.wave(1, 958229507L, DOWN, 0);
        fleet.wave(1, 958229508L, DOWN, 0);
        check.that("more than the share", fleet.in(1, 1), 0);
        check.that("as much as the share", fleet.in(1, 2), 0);
        check.that("less than the share", fleet.in(1, 3), 1);
    }

    private static void exactly(Check check) {
        check.sentence(PROMISE, "is less than the SHARE (exactly).");
        FleetWaves less = new FleetWaves();
        less.car(2, 0);
        less.campaign(0, 1);
        // digest * down + 1 = up * 2^32 here: doubles hold the two for equal.
        less.wave(1, 30220424L, 1047604451L, 0);
        check.that("a little less", less.in(1, 1), 1);
        FleetWaves more = new FleetWaves();
        more.car(4, 0);
        more.campaign(0, 1);
        // And here digest * down - 1 = up * 2^32.
        more.wave(1, 274520674L, 520190395L, 0);
        check.that("a little more", more.in(1, 1), 0);
        // The digest 1431655765 is a third of 2^32 - 1, so less than a third; one more is more.
        check.that("just less than 1/3", inWaves(2911647634075791339L, 1, 1, 3), 3);
        check.that("just more than 1/3", inWaves(455769074921436473L, 1, 1, 3), 2);
    }
}
