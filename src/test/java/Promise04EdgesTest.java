/** Promise 4 by its sentences: each edge of wave, of shares and of times. */
public final class Promise04EdgesTest {
    private static final String PROMISE = "Promise 4";
    private static final long DOWN = Check.GREATEST_DOWN;

    public static void main(String[] args) {
        Check check = new Check();
        run(check);
        check.end();
    }

    static void run(Check check) {
        fromATimeOn(check);
        runningAlsoFromPaused(check);
        numberedFromOneOn(check);
        noCampaign(check);
        downOutside(check);
        upOutside(check);
        timeBefore(check);
        timeBelowZero(check);
        lesserShare(check);
        lesserShareByAHair(check);
        stopped(check);
        twenty(check);
        firstThatFits(check);
        refusedTimesAreNotTold(check);
    }

    private static void fromATimeOn(Check check) {
        check.sentence(PROMISE, "A wave with a SHARE, from a time on;");
        FleetWaves fleet = Check.fleet(3);
        fleet.campaign(0, 1);
        check.that("before any wave", fleet.due(1, 19), 0);
        check.that("wave from 20 on", fleet.wave(1, 1, 1, 20), 1);
        check.that("at 19 no call is taken any more", fleet.due(1, 19), -2);
        check.that("at 20", fleet.due(1, 20), 1);
        check.that("at 21", fleet.due(2, 21), 1);
        check.that("at the last time", fleet.due(3, Long.MAX_VALUE), 1);
        // The digest of car 4 for campaign 1 is 0.528 of 2^32.
        FleetWaves shares = Check.fleet(4);
        shares.campaign(0, 1);
        shares.wave(1, 1, 2, 5);
        check.that("1/2 is too little", shares.due(4, 5), 0);
        shares.wave(1, 53, 100, 6);
        check.that("53/100 is enough", shares.due(4, 6), 1);
    }

    private static void runningAlsoFromPaused(Check check) {
        check.sentence(PROMISE, "the campaign is RUNNING (also if it was PAUSED):");
        FleetWaves fleet = Unchanged.livelyFleet();
        check.that("it is new", fleet.state(2), 0);
        check.that("wave of the new one", fleet.wave(2, 0, 1, 10), 1);
        check.that("it runs", fleet.state(2), 1);
        check.that("wave of the running one", fleet.wave(2, 0, 1, 10), 2);
        check.that("it runs still", fleet.state(2), 1);
        check.that("it is paused", fleet.state(4), 2);
        check.that("refused wave", fleet.wave(4, 1, 2, 10), -2);
        check.that("it is paused still", fleet.state(4), 2);
        check.that("wave of the paused one", fleet.wave(4, 1, 1, 10), 2);
        // Its rule, which is broken, is looked at behind reports alone.
        check.that("it runs again", fleet.state(4), 1);
        check.that("the next bad report", fleet.report(4, 4, false), 1);
        check.that("pauses it again", fleet.state(4), 2);
    }

    private static void numberedFromOneOn(Check check) {
        check.sentence(PROMISE, "the wave's number.");
        FleetWaves fleet = new FleetWaves();
        fleet.campaign(0, 1);
        fleet.campaign(1, 1);
        check.that("first", fleet.wave(1, 1, 2, 0), 1);
        check.that("refused", fleet.wave(1, 1, 3, 0), -2);
        check.that("second, behind a refused one", fleet.wave(1, 1, 2, 0), 2);
        check.that("first of the other campaign", fleet.wave(2, 0, 1, 0), 1);
        check.that("third", fleet.wave(1, 1, 1, 0), 3);
        check.that("no wave 0", fleet.in(1, 0), -1);
        check.that("wave 3", fleet.in(1, 3), 0);
        check.that("no wave 4", fleet.in(1, 4), -1);
        check.that("no wave 2 of the other", fleet.in(2, 2), -1);
    }

    private static void noCampaign(Check check) {
        check.sentence(PROMISE, "-1 there is no campaign");
        Unchanged.lively(check)
                .by("campaign 0", f -> f.wave(0, 1, 1, 50), -1)
                .by("campaign 6", f -> f.wave(6, 1, 1, 50), -1)
                .by("campaign -1", f -> f.wave(-1, 1, 1, 50), -1)
                .by("campaign MIN", f -> f.wave(Integer.MIN_VALUE, 1, 1, 50), -1)
                .by("campaign MAX", f -> f.wave(Integer.MAX_VALUE, 1, 1, 50), -1);
        FleetWaves fleet = Unchanged.livelyFleet();
        check.that("campaign 1", fleet.wave(1, 1, 1, 50), 2);
        check.that("campaign 5, the last one, is stopped", fleet.wave(5, 1, 1, 50), -3);
        check.that("campaign 6", fleet.campaign(7, 1), 6);
        check.that("its wave", fleet.wave(6, 1, 1, 50), 1);
    }

    private static void downOutside(Check check) {
        check.sentence(PROMISE, "-2 down is not 1 .. 2^30");
        Unchanged.lively(check)
                .by("0 / 0", f -> f.wave(2, 0, 0, 50), -2)
                .by("1 / 0", f -> f.wave(2, 1, 0, 50), -2)
                .by("-1 / -1", f -> f.wave(2, -1, -1, 50), -2)
                .by("0 / -1", f -> f.wave(2, 0, -1, 50), -2)
                .by("0 / -2^63", f -> f.wave(2, 0, Long.MIN_VALUE, 50), -2)
                .by("0 / (2^30 + 1)", f -> f.wave(2, 0, DOWN + 1, 50), -2)
                .by("(2^30 + 1) / (2^30 + 1)", f -> f.wave(2, DOWN + 1, DOWN + 1, 50), -2)
                .by("1 / (2^32 + 1)", f -> f.wave(2, 1, (1L << 32) + 1, 50), -2)
                .by("1 / (2^63 - 1)", f -> f.wave(2, 1, Long.MAX_VALUE, 50), -2);
        FleetWaves fleet = Check.fleet(1);
        fleet.campaign(0, 1);
        check.that("0 / 1", fleet.wave(1, 0, 1, 0), 1);
        check.that("0 / 2^30", fleet.wave(1, 0, DOWN, 0), 2);
        check.that("0 / (2^30 - 1)", fleet.wave(1, 0, DOWN - 1, 0), 3);
        check.that("1 / 2^30", fleet.wave(1, 1, DOWN, 0), 4);
        check.that("2^30 / 2^30", fleet.wave(1, DOWN, DOWN, 0), 5);
        check.that("1 / 1", fleet.wave(1, 1, 1, 0), 6);
    }

    private static void upOutside(Check check) {
        check.sentence(PROMISE, "up not 0 .. down");
        Unchanged.lively(check)
                .by("-1 / 1", f -> f.wave(2, -1, 1, 50), -2)
                .by("2 / 1", f -> f.wave(2, 2, 1, 50), -2)
                .by("6 / 5", f -> f.wave(2, 6, 5, 50), -2)
                .by("(2^30 + 1) / 2^30", f -> f.wave(2, DOWN + 1, DOWN, 50), -2)
                .by("-2^63 / 1", f -> f.wave(2, Long.MIN_VALUE, 1, 50), -2)
                .by("(2^63 - 1) / 1", f -> f.wave(2, Long.MAX_VALUE, 1, 50), -2)
                .by("2^32 / 1", f -> f.wave(2, 1L << 32, 1, 50), -2);
        FleetWaves fleet = Check.fleet(1);
        fleet.campaign(0, 1);
        check.that("0 / 5", fleet.wave(1, 0, 5, 0), 1);
        check.that("1 / 5", fleet.wave(1, 1, 5, 0), 2);
        check.that("4 / 5", fleet.wave(1, 4, 5, 0), 3);
        check.that("5 / 5", fleet.wave(1, 5, 5, 0), 4);
        check.that("share 0 takes none", fleet.in(1, 1), 0);
        check.that("share 1 takes all", fleet.in(1, 4), 1);
    }

    private static void timeBefore(Check check) {
        check.sentence(PROMISE, "or the time");
        Unchanged.lively(check)
                .by("at 9", f -> f.wave(1, 1, 1, 9), -2)
                .by("at 0", f -> f.wave(1, 1, 1, 0), -2)
                .by("at 9 of the new one", f -> f.wave(2, 1, 1, 9), -2)
                .by("at 9 of the paused one", f -> f.wave(4, 1, 1, 9), -2);
        check.sentence(PROMISE, "TIMES never become less: a call with a time that is less than one before");
        FleetWaves fleet = Check.fleet(1);
        fleet.campaign(0, 1);
        fleet.campaign(1, 1);
        check.that("wave at 10", fleet.wave(1, 0, 1, 10), 1);
        check.that("wave at 9", fleet.wave(1, 0, 1, 9), -2);
        check.that("wave at 9 of another campaign", fleet.wave(2, 0, 1, 9), -2);
        check.that("wave at 10 of another campaign", fleet.wave(2, 0, 1, 10), 1);
        check.that("due at 9", fleet.due(1, 9), -2);
        check.that("due at 12", fleet.due(1, 12), 0);
        check.that("wave at 11", fleet.wave(1, 0, 1, 11), -2);
        check.that("wave at 12", fleet.wave(1, 0, 1, 12), 2);
        check.that("wave at 2^63 - 2", fleet.wave(1, 0, 1, Long.MAX_VALUE - 1), 3);
        check.that("wave at 2^63 - 1", fleet.wave(1, 0, 1, Long.MAX_VALUE), 4);
        check.that("wave at 2^63 - 2 again", fleet.wave(1, 0, 1, Long.MAX_VALUE - 1), -2);
        check.that("wave at 2^63 - 1 again", fleet.wave(1, 0, 1, Long.MAX_VALUE), 5);
        check.that("wave at 2^63 wrapped", fleet.wave(1, 0, 1, Long.MAX_VALUE + 1), -2);
    }

    private static FleetWaves atNoTime() {
        FleetWaves fleet = Check.fleet(2);
        fleet.campaign(0, 1);
        return fleet;
    }

    private static void timeBelowZero(Check check) {
        check.sentence(PROMISE, "or below 0, is refused.");
        new Unchanged(check, Promise04EdgesTest::atNoTime, 0)
                .by("at -1", f -> f.wave(1, 1, 1, -1), -2)
                .by("at -2^32", f -> f.wave(1, 1, 1, -1L << 32), -2)
                .by("at -2^63", f -> f.wave(1, 1, 1, Long.MIN_VALUE), -2);
        FleetWaves fleet = atNoTime();
        check.that("at -1", fleet.wave(1, 1, 1, -1), -2);
        check.that("at 0", fleet.wave(1, 1, 1, 0), 1);
        check.that("at 0 again", fleet.wave(1, 1, 1, 0), 2);
        check.that("at -1", fleet.wave(1, 1, 1, -1), -2);
    }

    private static void lesserShare(Check check) {
        check.sentence(PROMISE, "or the SHARE is less than that of the wave before");
        // The campaigns 1, 3 and 4 have waves of 1/2, 1/4 and 1.
        Unchanged.lively(check)
                .by("1/3 behind 1/2", f -> f.wave(1, 1, 3, 50), -2)
                .by("0/1 behind 1/2", f -> f.wave(1, 0, 1, 50), -2)
                .by("24/100 behind 1/4", f -> f.wave(3, 24, 100, 50), -2)
                .by("2/3 behind 1, of a paused one", f -> f.wave(4, 2, 3, 50), -2);
        FleetWaves fleet = new FleetWaves();
        fleet.campaign(0, 1);
        fleet.campaign(1, 1);
        check.that("no wave before: 0/1", fleet.wave(1, 0, 1, 0), 1);
        check.that("0/7 behind 0/1", fleet.wave(1, 0, 7, 0), 2);
        check.that("1/2", fleet.wave(1, 1, 2, 0), 3);
        check.that("1/3", fleet.wave(1, 1, 3, 0), -2);
        check.that("2/4", fleet.wave(1, 2, 4, 0), 4);
        check.that("49/99", fleet.wave(1, 49, 99, 0), -2);
        check.that("50/99", fleet.wave(1, 50, 99, 0), 5);
        check.that("1/2, less than the wave before alone", fleet.wave(1, 1, 2, 0), -2);
        check.that("1/3 of the other campaign", fleet.wave(2, 1, 3, 0), 1);
        check.that("1/1", fleet.wave(1, 1, 1, 0), 6);
        check.that("98/99", fleet.wave(1, 98, 99, 0), -2);
        check.that("99/99", fleet.wave(1, 99, 99, 0), 7);
    }

    private static void lesserShareByAHair(Check check) {
        check.sentence(PROMISE, "or the SHARE is less than that of the wave before");
        // Neighbours among the fractions differ by less than what a double can tell near 1.
        FleetWaves fleet = new FleetWaves();
        fleet.campaign(0, 1);
        check.that("first", fleet.wave(1, DOWN - 2, DOWN - 1, 0), 1);
        check.that("greater by 2^-60", fleet.wave(1, DOWN - 1, DOWN, 0), 2);
        check.that("less by 2^-60", fleet.wave(1, DOWN - 2, DOWN - 1, 0), -2);
        check.that("the same", fleet.wave(1, DOWN - 1, DOWN, 0), 3);
        FleetWaves small = new FleetWaves();
        small.campaign(0, 1);
        check.that("1 / (2^30 - 1)", small.wave(1, 1, DOWN - 1, 0), 1);
        check.that("1 / 2^30", small.wave(1, 1, DOWN, 0), -2);
        check.that("2 / 2^30", small.wave(1, 2, DOWN, 0), 2);
        check.that("0 / 1", small.wave(1, 0, 1, 0), -2);
    }

    private static FleetWaves livelyFleetStopped() {
        FleetWaves fleet = Unchanged.livelyFleet();
        fleet.stop(1);
        fleet.stop(4);
        return fleet;
    }

    private static void stopped(Check check) {
        check.sentence(PROMISE, "-3 it is STOPPED");
        new Unchanged(check, Promise04EdgesTest::livelyFleetStopped, 10)
                .by("stopped while it ran", f -> f.wave(1, 1, 1, 50), -3)
                .by("stopped while it was paused", f -> f.wave(4, 1, 1, 50), -3)
                .by("stopped while it was new", f -> f.wave(5, 1, 1, 50), -3);
        FleetWaves fleet = Unchanged.livelyFleet();
        check.that("just before the stop", fleet.wave(1, 1, 1, 10), 2);
        check.that("stop", fleet.stop(1), 2);
        check.that("just behind it", fleet.wave(1, 1, 1, 10), -3);
        check.that("it stays stopped", fleet.state(1), 3);
        check.that("no wave 3", fleet.in(1, 3), -1);
    }

    private static FleetWaves livelyFleetWithWaves(int waves) {
        FleetWaves fleet = Unchanged.livelyFleet();
        for (int n = 2; n <= waves; n++) {
            fleet.wave(4, 1, 1, 10);
        }
        return fleet;
    }

    private static void twenty(Check check) {
        check.sentence(PROMISE, "-4 it has 20");
        new Unchanged(check, () -> livelyFleetWithWaves(20), 10)
                .by("wave 21", f -> f.wave(4, 1, 1, 50), -4)
                .by("wave 21 at the same time", f -> f.wave(4, 1, 1, 10), -4);
        check.sentence(PROMISE, "WAVES of a campaign are numbered from 1 on, at most 20, "
                + "each with a SHARE up / down and a time from which on it holds.");
        FleetWaves fleet = livelyFleetWithWaves(19);
        check.that("no wave 20 yet", fleet.in(4, 20), -1);
        check.that("wave 20", fleet.wave(4, 1, 1, 10), 20);
        check.that("wave 20 is there", fleet.in(4, 20), 4);
        check.that("wave 21", fleet.wave(4, 1, 1, 11), -4);
        check.that("no wave 21", fleet.in(4, 21), -1);
        check.that("another campaign has room", fleet.wave(1, 1, 1, 10), 2);
        check.that("pause it", fleet.report(4, 4, false), 1);
        check.that("paused", fleet.state(4), 2);
        check.that("wave 21 of a paused one", fleet.wave(4, 1, 1, 10), -4);
        check.that("paused still", fleet.state(4), 2);
    }

    private static void firstThatFits(Check check) {
        check.sentence(PROMISE, "answer, the first that fits:");
        FleetWaves fleet = livelyFleetWithWaves(20);
        check.that("-1, not -2, share", fleet.wave(6, 2, 1, 10), -1);
        check.that("-1, not -2, time", fleet.wave(0, 1, 1, 9), -1);
        check.that("-2, not -4, down", fleet.wave(4, 0, 0, 10), -2);
        check.that("-2, not -4, up", fleet.wave(4, 2, 1, 10), -2);
        check.that("-2, not -4, time", fleet.wave(4, 1, 1, 9), -2);
        check.that("-2, not -4, lesser share", fleet.wave(4, 2, 3, 10), -2);
        check.that("-4", fleet.wave(4, 1, 1, 10), -4);
        fleet.stop(4);
        check.that("-2, not -3, down", fleet.wave(4, 1, DOWN + 1, 10), -2);
        check.that("-2, not -3, up", fleet.wave(4, -1, 1, 10), -2);
        check.that("-2, not -3, time", fleet.wave(4, 1, 1, 9), -2);
        check.that("-2, not -3, lesser share", fleet.wave(4, 2, 3, 10), -2);
        check.that("-3, not -4", fleet.wave(4, 1, 1, 10), -3);
    }

    private static void refusedTimesAreNotTold(Check check) {
        check.sentence(PROMISE, "REFUSALS change nothing");
        FleetWaves fleet = livelyFleetWithWaves(20);
        check.that("-1 at 90", fleet.wave(6, 1, 1, 90), -1);
        check.that("-2 at 90", fleet.wave(1, 1, 0, 90), -2);
        check.that("-2 at 90, lesser share", fleet.wave(1, 1, 3, 90), -2);
        check.that("-3 at 90", fleet.wave(5, 1, 1, 90), -3);
        check.that("-4 at 90", fleet.wave(4, 1, 1, 90), -4);
        check.that("-1 at 90, due", fleet.due(5, 90), -1);
        check.that("9 is less than a time before", fleet.wave(1, 1, 1, 9), -2);
        check.that("10 is not", fleet.wave(1, 1, 1, 10), 2);
    }
}
