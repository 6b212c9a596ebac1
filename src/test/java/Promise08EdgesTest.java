/** Promise 8 by its sentences: each edge of rule. */
public final class Promise08EdgesTest {
    private static final String PROMISE = "Promise 8";
    private static final long DOWN = Check.GREATEST_DOWN;

    public static void main(String[] args) {
        Check check = new Check();
        run(check);
        check.end();
    }

    static void run(Check check) {
        aShare(check);
        pausedAtOnce(check);
        pausedAtOnceByAHair(check);
        notPaused(check);
        noCampaign(check);
        downOutside(check);
        upOutside(check);
        firstThatFits(check);
    }

    private static FleetWaves oneOfThreeIsBad(Check check) {
        FleetWaves fleet = Check.running(4);
        check.reported(fleet, 1, 0, 1, true);
        check.reported(fleet, 2, 0, 1, false);
        check.reported(fleet, 3, 0, 1, true);
        return fleet;
    }

    private static void aShare(Check check) {
        check.sentence(PROMISE, "A campaign's RULE: a share up / down:");
        FleetWaves fleet = oneOfThreeIsBad(check);
        check.that("1/2", fleet.rule(1, 1, 2), 0);
        check.reported(fleet, 4, 0, 1, false);
        check.that("2/4 is as much", fleet.state(1), 1);
        FleetWaves other = oneOfThreeIsBad(check);
        check.that("1/2", other.rule(1, 1, 2), 0);
        check.that("2/5 instead", other.rule(1, 2, 5), 0);
        check.reported(other, 4, 0, 1, false);
        check.that("2/4 is more than the later rule", other.state(1), 2);
        FleetWaves greater = oneOfThreeIsBad(check);
        check.that("2/5", greater.rule(1, 2, 5), 0);
        check.that("1/2 instead", greater.rule(1, 1, 2), 0);
        check.reported(greater, 4, 0, 1, false);
        check.that("2/4 is not more than the later rule", greater.state(1), 1);
    }

    private static void pausedAtOnce(Check check) {
        check.sentence(PROMISE, "1 it is PAUSED by it at once, 0 not.");
        FleetWaves fleet = oneOfThreeIsBad(check);
        check.that("1/1", fleet.rule(1, 1, 1), 0);
        check.that("1/3, as much", fleet.rule(1, 1, 3), 0);
        check.that("running", fleet.state(1), 1);
        check.that("33/100, less", fleet.rule(1, 33, 100), 1);
        check.that("paused", fleet.state(1), 2);
        FleetWaves zero = Check.running(2);
        check.reported(zero, 1, 0, 1, true);
        check.that("0/1 bad, rule 0", zero.rule(1, 0, 1), 0);
        check.that("running", zero.state(1), 1);
        FleetWaves all = Check.running(2);
        check.reported(all, 1, 0, 1, false);
        check.that("1/1 bad, rule 1", all.rule(1, 1, 1), 0);
        check.that("1/1 bad, rule 1 - 2^-30", all.rule(1, DOWN - 1, DOWN), 1);
        check.that("paused", all.state(1), 2);
    }

    private static void pausedAtOnceByAHair(Check check) {
        check.sentence(PROMISE, "1 it is PAUSED by it at once, 0 not.");
        // 357913941 / 1073741823 is 1/3; the neighbours are some 2^-30 away.
        FleetWaves fleet = oneOfThreeIsBad(check);
        check.that("a little more", fleet.rule(1, 357913942L, 1073741823L), 0);
        check.that("the same", fleet.rule(1, 357913941L, 1073741823L), 0);
        check.that("a little less", fleet.rule(1, 357913941L, DOWN), 1);
    }

    private static void notPaused(Check check) {
        check.sentence(PROMISE, "1 it is PAUSED by it at once, 0 not.");
        FleetWaves fresh = new FleetWaves();
        fresh.campaign(0, 1);
        check.that("a new one", fresh.rule(1, 0, 1), 0);
        check.that("it is new", fresh.state(1), 0);
        FleetWaves empty = Check.running(1);
        check.that("no reports", empty.rule(1, 0, 1), 0);
        check.that("it runs", empty.state(1), 1);
        FleetWaves fleet = oneOfThreeIsBad(check);
        check.that("paused by it", fleet.rule(1, 0, 1), 1);
        check.that("paused already", fleet.rule(1, 0, 1), 0);
        check.that("a greater rule", fleet.rule(1, 1, 1), 0);
        check.that("does not let it run", fleet.state(1), 2);
        fleet.stop(1);
        check.that("a stopped one", fleet.rule(1, 0, 1), 0);
        check.that("stays stopped", fleet.state(1), 3);
    }

    private static void noCampaign(Check check) {
        check.sentence(PROMISE, "-1 there is no campaign");
        Unchanged.lively(check)
                .by("campaign 0", f -> f.rule(0, 0, 1), -1)
                .by("campaign 6", f -> f.rule(6, 0, 1), -1)
                .by("campaign -1", f -> f.rule(-1, 0, 1), -1)
                .by("campaign MIN", f -> f.rule(Integer.MIN_VALUE, 0, 1), -1)
                .by("campaign MAX", f -> f.rule(Integer.MAX_VALUE, 0, 1), -1);
        FleetWaves fleet = Unchanged.livelyFleet();
        check.that("campaign 1", fleet.rule(1, 0, 1), 1);
        check.that("campaign 5", fleet.rule(5, 0, 1), 0);
    }

    private static void downOutside(Check check) {
        check.sentence(PROMISE, "-2 down is not 1 .. 2^30");
        Unchanged.lively(check)
                .by("0 / 0", f -> f.rule(1, 0, 0), -2)
                .by("1 / 0", f -> f.rule(1, 1, 0), -2)
                .by("0 / -1", f -> f.rule(1, 0, -1), -2)
                .by("-1 / -1", f -> f.rule(1, -1, -1), -2)
                .by("0 / (2^30 + 1)", f -> f.rule(1, 0, DOWN + 1), -2)
                .by("0 / (2^32 + 1)", f -> f.rule(1, 0, (1L << 32) + 1), -2)
                .by("0 / (2^63 - 1)", f -> f.rule(1, 0, Long.MAX_VALUE), -2)
                .by("0 / -2^63", f -> f.rule(1, 0, Long.MIN_VALUE), -2);
        check.that("0 / 1", Unchanged.livelyFleet().rule(1, 0, 1), 1);
        check.that("0 / 2^30", Unchanged.livelyFleet().rule(1, 0, DOWN), 1);
        check.that("1/2 is not more than half of 2^30",
                Unchanged.livelyFleet().rule(1, DOWN / 2, DOWN), 0);
        check.that("but more than one less",
                Unchanged.livelyFleet().rule(1, DOWN / 2 - 1, DOWN), 1);
    }

    private static void upOutside(Check check) {
        check.sentence(PROMISE, "or up not 0 .. down.");
        Unchanged.lively(check)
                .by("-1 / 1", f -> f.rule(1, -1, 1), -2)
                .by("2 / 1", f -> f.rule(1, 2, 1), -2)
                .by("(2^30 + 1) / 2^30", f -> f.rule(1, DOWN + 1, DOWN), -2)
                .by("-2^63 / 1", f -> f.rule(1, Long.MIN_VALUE, 1), -2)
                .by("(2^63 - 1) / 2^30", f -> f.rule(1, Long.MAX_VALUE, DOWN), -2)
                .by("-1 / 1 of a new one", f -> f.rule(2, -1, 1), -2)
                .by("2 / 1 of a paused one", f -> f.rule(4, 2, 1), -2);
        check.that("0 / 3", Unchanged.livelyFleet().rule(1, 0, 3), 1);
        check.that("1 / 3", Unchanged.livelyFleet().rule(1, 1, 3), 1);
        check.that("3 / 3", Unchanged.livelyFleet().rule(1, 3, 3), 0);
        check.that("2^30 / 2^30", Unchanged.livelyFleet().rule(1, DOWN, DOWN), 0);
    }

    private static void firstThatFits(Check check) {
        check.sentence(PROMISE, "answer, the first that fits:");
        FleetWaves fleet = Unchanged.livelyFleet();
        check.that("-1, not -2, down", fleet.rule(6, 0, 0), -1);
        check.that("-1, not -2, up", fleet.rule(0, 2, 1), -1);
        check.that("-2", fleet.rule(5, 2, 1), -2);
    }
}
