/** Promise 5 by its sentences: each edge of due, and of the Terms' DUE and BEGUN. */
public final class Promise05EdgesTest {
    private static final String PROMISE = "Promise 5";

    public static void main(String[] args) {
        Check check = new Check();
        run(check);
        check.end();
    }

    static void run(Check check) {
        campaignOrNothing(check);
        noCar(check);
        timeBefore(check);
        firstThatFits(check);
        runningOnly(check);
        meantOnly(check);
        consentOnly(check);
        waveHolds(check);
        failedOnce(check);
        failedAtGreatTimes(check);
        failedTwice(check);
        beforeByEdition(check);
        beforeByOrder(check);
        stoppedBefore(check);
        stoppedBeforeBegun(check);
        leastTime(check);
        thenByNumber(check);
        begunFromThenOn(check);
        staysDue(check);
        staysDueBeforeOthers(check);
    }

    private static void campaignOrNothing(Check check) {
        check.sentence(PROMISE,
                "What is DUE for a car at a time: the campaign, which it has BEGUN then, or 0.");
        FleetWaves fleet = Check.fleet(2);
        check.that("no campaign", fleet.due(1, 0), 0);
        fleet.campaign(0, 1);
        fleet.wave(1, 0, 1, 0);
        check.that("none due", fleet.due(1, 0), 0);
        check.that("0 begins nothing", fleet.report(1, 1, true), -3);
        fleet.wave(1, 1, 1, 0);
        check.that("one due", fleet.due(1, 0), 1);
        check.that("it is begun", fleet.report(1, 1, true), 1);
        check.that("the other car has begun nothing", fleet.report(2, 1, true), -3);
        check.that("nothing more", fleet.due(1, 0), 0);
    }

    private static void noCar(Check check) {
        check.sentence(PROMISE, "-1 there is no car");
        Unchanged.lively(check)
                .by("car 0", f -> f.due(0, 50), -1)
                .by("car 5", f -> f.due(5, 50), -1)
                .by("car -1", f -> f.due(-1, 50), -1)
                .by("car MIN", f -> f.due(Integer.MIN_VALUE, 50), -1)
                .by("car MAX", f -> f.due(Integer.MAX_VALUE, Long.MAX_VALUE), -1);
        FleetWaves fleet = Unchanged.livelyFleet();
        check.that("car 1", fleet.due(1, 10), 0);
        check.that("car 4", fleet.due(4, 10), 4);
        check.that("a fifth car", fleet.car(5, 9), 5);
        check.that("car 5", fleet.due(5, 10), 0);
    }

    private static void timeBefore(Check check) {
        check.sentence(PROMISE, "-2 the time.");
        Unchanged.lively(check)
                .by("at 9", f -> f.due(3, 9), -2)
                .by("at 9 of a car that has begun", f -> f.due(4, 9), -2)
                .by("at 0", f -> f.due(3, 0), -2)
                .by("at -1", f -> f.due(3, -1), -2)
                .by("at -2^63", f -> f.due(3, Long.MIN_VALUE), -2);
        check.sentence(PROMISE, "TIMES never become less: a call with a time that is less than one before, "
                + "or below 0, is refused.");
        FleetWaves fleet = Check.fleet(2);
        check.that("at -1", fleet.due(1, -1), -2);
        check.that("at 0", fleet.due(1, 0), 0);
        check.that("at 0 again", fleet.due(2, 0), 0);
        check.that("at 1", fleet.due(2, 1), 0);
        check.that("at 0, of the other car", fleet.due(1, 0), -2);
        check.that("at 1, of the other car", fleet.due(1, 1), 0);
        check.that("at 2^63 - 1", fleet.due(1, Long.MAX_VALUE), 0);
        check.that("at 2^63 - 2", fleet.due(1, Long.MAX_VALUE - 1), -2);
        check.that("at 2^63 wrapped", fleet.due(1, Long.MAX_VALUE + 1), -2);
        check.that("at 2^63 - 1 again", fleet.due(2, Long.MAX_VALUE), 0);
    }

    private static void firstThatFits(Check check) {
        check.sentence(PROMISE, "answer, the first that fits:");
        FleetWaves fleet = Unchanged.livelyFleet();
        check.that("-1, not -2", fleet.due(5, 9), -1);
        check.that("-1, not -2", fleet.due(0, -1), -1);
        check.that("-2", fleet.due(4, 9), -2);
    }

    private static void runningOnly(Check check) {
        check.sentence(PROMISE, "DUE for a car at a time are the campaigns that are RUNNING");
        FleetWaves fleet = Check.fleet(5);
        fleet.campaign(0, 1);
        check.that("new", fleet.due(1, 0), 0);
        fleet.wave(1, 1, 1, 0);
        check.that("running", fleet.due(1, 0), 1);
        fleet.report(1, 1, false);
        check.that("pause it", fleet.rule(1, 0, 1), 1);
        check.that("paused", fleet.due(2, 0), 0);
        fleet.wave(1, 1, 1, 0);
        check.that("running again", fleet.due(2, 0), 1);
        fleet.stop(1);
        check.that("stopped", fleet.due(3, 0), 0);
    }

    private static void meantOnly(Check check) {
        check.sentence(PROMISE, "and MEANT for it,");
        FleetWaves fleet = new FleetWaves();
        fleet.campaign(Check.formula(2, 3, 1), 5);
        fleet.wave(1, 1, 1, 0);
        fleet.car(1, 4);
        fleet.car(2, 4);
        fleet.car(3, 4);
        fleet.car(4, 5);
        fleet.car(7, 0);
        check.that("1 modulo 3, edition 4", fleet.due(1, 0), 1);
        check.that("2 modulo 3", fleet.due(2, 0), 0);
        check.that("0 modulo 3", fleet.due(3, 0), 0);
        check.that("1 modulo 3, edition 5", fleet.due(4, 0), 0);
        check.that("1 modulo 3, edition 0", fleet.due(5, 0), 1);
    }

    private static void consentOnly(Check check) {
        check.sentence(PROMISE, "if it CONSENTS, and:");
        FleetWaves fleet = Check.running(2);
        fleet.consent(1, false);
        check.that("no consent", fleet.due(1, 0), 0);
        check.that("and nothing begun", fleet.report(1, 1, true), -3);
        check.that("the other car", fleet.due(2, 0), 1);
        fleet.consent(1, true);
        check.that("consent", fleet.due(1, 0), 1);
    }

    private static void waveHolds(Check check) {
        check.sentence(PROMISE, "a wave of it that it is IN holds at that time;");
        // Of 2^32, the digests for campaign 1 are 0 and 2^32 - 1 of these two numbers.
        FleetWaves fleet = new FleetWaves();
        fleet.car(1190112520884487201L, 0);
        fleet.car(3278235960551256476L, 0);
        fleet.campaign(0, 1);
        fleet.wave(1, 0, 1, 5);
        check.that("0 is not less than 0", fleet.due(1, 5), 0);
        fleet.wave(1, 1, Check.GREATEST_DOWN, 6);
        check.that("0 is less than 2^-30, at that very time", fleet.due(1, 6), 1);
        fleet.wave(1, Check.GREATEST_DOWN - 1, Check.GREATEST_DOWN, 7);
        check.that("1 - 2^-32 is not less than 1 - 2^-30", fleet.due(2, 7), 0);
        fleet.wave(1, 1, 1, 8);
        check.that("a call of the time before", fleet.due(2, 7), -2);
        check.that("1 - 2^-32 is less than 1, at that very time", fleet.due(2, 8), 1);
    }

    private static void failedOnce(Check check) {
        check.sentence(PROMISE, "and, having FAILED once, the time is 100 or more after that;");
        FleetWaves fleet = Check.running(2);
        check.that("begun at 3", fleet.due(1, 3), 1);
        check.that("told last: 7", fleet.due(2, 7), 1);
        fleet.report(1, 1, false);
        check.that("0 after", fleet.due(1, 7), 0);
        check.that("99 after", fleet.due(1, 106), 0);
        check.that("and nothing begun", fleet.report(1, 1, true), -3);
        check.that("100 after", fleet.due(1, 107), 1);
        fleet.report(2, 1, false);
        check.that("2 failed at 107: 99 after", fleet.due(2, 206), 0);
        check.that("1 more", fleet.due(2, 207), 1);
        FleetWaves later = Check.running(1);
        check.reported(later, 1, 0, 1, false);
        check.that("101 after", later.due(1, 101), 1);
    }

    private static void failedAtGreatTimes(Check check) {
        check.sentence(PROMISE, "and, having FAILED once, the time is 100 or more after that;");
        long last = Long.MAX_VALUE;
        FleetWaves inside = Check.running(1);
        check.reported(inside, 1, last - 100, 1, false);
        check.that("99 after", inside.due(1, last - 1), 0);
        check.that("100 after, the last time there is", inside.due(1, last), 1);
        FleetWaves outside = Check.running(1);
        check.reported(outside, 1, last - 99, 1, false);
        check.that("99 after, the last time there is", outside.due(1, last), 0);
    }

    private static void failedTwice(Check check) {
        check.sentence(PROMISE, "it has not FAILED twice at it,");
        FleetWaves fleet = Check.running(2);
        fleet.campaign(1, 1);
        fleet.wave(2, 1, 1, 1);
        check.reported(fleet, 1, 1, 1, false);
        check.reported(fleet, 1, 1, 2, false);
        check.that("once at each", fleet.due(1, 100), 0);
        check.reported(fleet, 1, 101, 1, false);
        check.reported(fleet, 1, 101, 2, true);
        check.that("100 after the second", fleet.due(1, 201), 0);
        check.that("ever", fleet.due(1, Long.MAX_VALUE), 0);
        check.that("another car may", fleet.due(2, Long.MAX_VALUE), 1);
    }

    private static void beforeByEdition(Check check) {
        check.sentence(PROMISE, "and no campaign is MEANT for it that is BEFORE");
        FleetWaves fleet = new FleetWaves();
        fleet.car(1, 0);
        fleet.car(2, 0);
        fleet.car(3, 4);
        fleet.campaign(0, 5);
        fleet.campaign(Check.formula(0, 2, 1), 4);
        fleet.wave(1, 1, 1, 0);
        check.that("4 comes before 5 for odd ones, new as it is", fleet.due(1, 0), 0);
        check.that("not for even ones", fleet.due(2, 0), 1);
        check.that("not for one that has 4", fleet.due(3, 0), 1);
        fleet.wave(2, 0, 1, 0);
        check.that("not in its wave, but meant", fleet.due(1, 0), 0);
        fleet.wave(2, 1, 1, 0);
        check.reported(fleet, 1, 0, 2, true);
        check.that("now 5", fleet.due(1, 0), 1);
    }

    private static void beforeByOrder(Check check) {
        check.sentence(PROMISE, "and no campaign is MEANT for it that is BEFORE");
        FleetWaves fleet = Check.fleet(2);
        fleet.campaign(0, 1);
        fleet.campaign(1, 1);
        fleet.campaign(2, 1);
        fleet.wave(3, 1, 1, 0);
        check.that("no order told", fleet.due(2, 0), 3);
        fleet.order(3, 2);
        fleet.order(2, 1);
        check.that("2 before 3", fleet.due(1, 0), 0);
        fleet.wave(2, 1, 1, 0);
        check.that("1 before 2", fleet.due(1, 0), 0);
        fleet.wave(1, 1, 1, 0);
        check.reported(fleet, 1, 0, 1, false);
        check.that("one that failed is meant still", fleet.due(1, 99), 0);
        check.reported(fleet, 1, 100, 1, true);
        check.reported(fleet, 1, 100, 2, true);
        check.reported(fleet, 1, 100, 3, true);
    }

    private static void stoppedBefore(Check check) {
        check.sentence(PROMISE, "(but for one that is STOPPED and that the car has not BEGUN).");
        FleetWaves fleet = Check.fleet(4);
        fleet.campaign(0, 1);
        fleet.campaign(0, 2);
        fleet.wave(1, 1, 1, 0);
        fleet.wave(2, 1, 1, 0);
        check.reported(fleet, 1, 0, 1, false);
        check.that("1 waits", fleet.due(1, 50), 0);
        check.that("paused", fleet.rule(1, 0, 1), 1);
        check.that("a paused one is no stopped one", fleet.due(2, 50), 0);
        fleet.stop(1);
        check.that("stopped, not begun", fleet.due(2, 50), 2);
        check.that("stopped, not begun any more", fleet.due(1, 50), 2);
    }

    private static void stoppedBeforeBegun(Check check) {
        check.sentence(PROMISE, "(but for one that is STOPPED and that the car has not BEGUN).");
        FleetWaves fleet = Check.fleet(2);
        fleet.campaign(0, 1);
        fleet.campaign(0, 2);
        fleet.wave(2, 1, 1, 0);
        fleet.wave(1, 1, 1, 5);
        check.that("1 begins the first", fleet.due(1, 5), 1);
        fleet.stop(1);
        check.that("stopped and begun: not the second, though its wave is older", fleet.due(1, 5), 1);
        check.that("the second is not begun", fleet.report(1, 2, true), -3);
        check.that("stopped and not begun", fleet.due(2, 5), 2);
        fleet.report(1, 1, false);
        check.that("and not begun any more", fleet.due(1, 5), 2);
    }

    private static void leastTime(Check check) {
        check.sentence(PROMISE,
                "Of these the one with the wave that it is IN that holds since the least time,");
        FleetWaves fleet = Check.fleet(3);
        fleet.campaign(0, 1);
        fleet.campaign(1, 1);
        // Digests of 2^32: for campaign 1 cars 1 and 2 have 0.797 and 0.029.
        fleet.wave(1, 1, 2, 4);
        fleet.wave(2, 1, 1, 5);
        fleet.wave(1, 1, 1, 6);
        fleet.wave(2, 1, 1, 7);
        check.that("2 is in the first one's wave since 4", fleet.due(2, 7), 1);
        check.that("1 is in it since 6", fleet.due(1, 7), 2);
        fleet.report(1, 2, true);
        check.that("then the other one", fleet.due(1, 7), 1);
    }

    private static void thenByNumber(Check check) {
        check.sentence(PROMISE, "then by number.");
        FleetWaves fleet = Check.fleet(1);
        for (int part = 0; part < 4; part++) {
            fleet.campaign(part, 1);
        }
        fleet.wave(4, 1, 1, 5);
        fleet.wave(3, 1, 1, 5);
        fleet.wave(1, 1, 1, 5);
        fleet.wave(2, 1, 1, 6);
        check.reported(fleet, 1, 6, 1, true);
        check.reported(fleet, 1, 6, 3, true);
        check.reported(fleet, 1, 6, 4, true);
        check.reported(fleet, 1, 6, 2, true);
        check.that("none is left", fleet.due(1, 6), 0);
    }

    private static void begunFromThenOn(Check check) {
        check.sentence(PROMISE, "That one it has BEGUN from then on.");
        FleetWaves fleet = Check.running(2);
        fleet.campaign(1, 1);
        fleet.wave(2, 1, 1, 0);
        check.that("just before", fleet.report(1, 1, true), -3);
        check.that("due", fleet.due(1, 0), 1);
        check.that("not the other one", fleet.report(1, 2, true), -3);
        check.that("not the other car", fleet.report(2, 1, true), -3);
        check.that("stop counts it as begun", fleet.stop(1), 1);
        check.that("just behind", fleet.report(1, 1, true), 1);
    }

    private static void staysDue(Check check) {
        check.sentence(PROMISE, "A campaign that a car has BEGUN, and not reported yet, stays due for it "
                + "whatever becomes of states, consent and waves, as long as it is MEANT for it.");
        FleetWaves fleet = Check.running(2);
        check.that("begun", fleet.due(1, 0), 1);
        check.that("and asked again", fleet.due(1, 0), 1);
        fleet.consent(1, false);
        check.that("without consent", fleet.due(1, 1), 1);
        check.reported(fleet, 2, 1, 1, false);
        check.that("pause it", fleet.rule(1, 0, 1), 1);
        check.that("paused", fleet.due(1, 2), 1);
        fleet.wave(1, 1, 1, 3);
        check.that("another wave", fleet.due(1, 3), 1);
        fleet.stop(1);
        check.that("stopped", fleet.due(1, 4), 1);
        check.that("long after", fleet.due(1, Long.MAX_VALUE), 1);
        check.that("reported", fleet.report(1, 1, true), 1);
        check.that("neither begun nor meant any more", fleet.due(1, Long.MAX_VALUE), 0);
    }

    private static void staysDueBeforeOthers(Check check) {
        check.sentence(PROMISE, "stays due for it whatever becomes of states, consent and waves");
        FleetWaves fleet = Check.fleet(1);
        fleet.campaign(0, 5);
        fleet.campaign(1, 1);
        fleet.wave(2, 1, 1, 1);
        fleet.wave(1, 1, 1, 2);
        check.reported(fleet, 1, 2, 2, false);
        check.that("the first, while the second waits", fleet.due(1, 3), 1);
        check.that("still the first when the second may be tried", fleet.due(1, 103), 1);
        fleet.campaign(0, 4);
        fleet.wave(3, 1, 1, 103);
        fleet.order(1, 2);
        check.that("and when two come before it", fleet.due(1, 103), 1);
        check.that("none of these is begun", fleet.report(1, 2, true), -3);
        check.that("nor this", fleet.report(1, 3, true), -3);
        check.that("bad report", fleet.report(1, 1, false), 1);
        check.reported(fleet, 1, 103, 2, true);
        check.reported(fleet, 1, 103, 3, true);
        check.that("99 after", fleet.due(1, 202), 0);
        check.that("100 after", fleet.due(1, 203), 1);
    }
}
