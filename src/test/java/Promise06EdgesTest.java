/** Promise 6 by its sentences: each edge of report, and of the Terms' REPORTS and RULE. */
public final class Promise06EdgesTest {
    private static final String PROMISE = "Promise 6";

    public static void main(String[] args) {
        Check check = new Check();
        run(check);
        check.end();
    }

    static void run(Check check) {
        answersOne(check);
        noSuchCarOrCampaign(check);
        notBegun(check);
        firstThatFits(check);
        good(check);
        bad(check);
        atTheTimeToldLast(check);
        notBegunAnyMore(check);
        withoutARule(check);
        moreThanTheRule(check);
        moreThanTheRuleByAHair(check);
        edgesOfRules(check);
        runningOnly(check);
    }

    private static void answersOne(Check check) {
        check.sentence(PROMISE, "A report of a car: 1.");
        FleetWaves fleet = Check.running(2);
        fleet.due(1, 0);
        fleet.due(2, 0);
        check.that("good", fleet.report(1, 1, true), 1);
        check.that("bad", fleet.report(2, 1, false), 1);
        check.that("two reports", fleet.share(1, 1), 2);
    }

    private static void noSuchCarOrCampaign(Check check) {
        check.sentence(PROMISE, "-1 there is no such car or campaign");
        Unchanged.lively(check)
                .by("car 0", f -> f.report(0, 4, false), -1)
                .by("car 5", f -> f.report(5, 4, false), -1)
                .by("car MIN", f -> f.report(Integer.MIN_VALUE, 4, true), -1)
                .by("car MAX", f -> f.report(Integer.MAX_VALUE, 4, true), -1)
                .by("campaign 0", f -> f.report(4, 0, true), -1)
                .by("campaign 0 of a car that has begun none", f -> f.report(3, 0, true), -1)
                .by("campaign 6", f -> f.report(4, 6, true), -1)
                .by("campaign MIN", f -> f.report(4, Integer.MIN_VALUE, false), -1)
                .by("campaign MAX", f -> f.report(4, Integer.MAX_VALUE, false), -1)
                .by("neither", f -> f.report(0, 0, true), -1);
        FleetWaves fleet = Unchanged.livelyFleet();
        check.that("car 4, campaign 4", fleet.report(4, 4, true), 1);
    }

    private static void notBegun(Check check) {
        check.sentence(PROMISE, "-3 it has not BEGUN it.");
        Unchanged.lively(check)
                .by("another campaign, good", f -> f.report(4, 1, true), -3)
                .by("another campaign, bad", f -> f.report(4, 3, false), -3)
                .by("another car, good", f -> f.report(1, 4, true), -3)
                .by("another car, bad", f -> f.report(1, 1, false), -3)
                .by("one that it has reported on, good", f -> f.report(2, 1, true), -3)
                .by("one that it FAILED at, good", f -> f.report(3, 1, true), -3)
                .by("one that it FAILED at, bad", f -> f.report(2, 4, false), -3)
                .by("a stopped one", f -> f.report(4, 5, true), -3);
        FleetWaves fleet = Check.running(1);
        check.that("before due", fleet.report(1, 1, true), -3);
        check.that("due", fleet.due(1, 0), 1);
        check.that("behind due", fleet.report(1, 1, true), 1);
        check.that("behind the report", fleet.report(1, 1, true), -3);
    }

    private static void firstThatFits(Check check) {
        check.sentence(PROMISE, "answer, the first that fits:");
        FleetWaves fleet = Unchanged.livelyFleet();
        check.that("-1, not -3, campaign", fleet.report(1, 6, true), -1);
        check.that("-1, not -3, car", fleet.report(5, 1, true), -1);
        check.that("-3", fleet.report(1, 1, true), -3);
    }

    private static void good(Check check) {
        check.sentence(PROMISE, "REPORTS: a good one: the car's PART has the campaign's EDITION.");
        FleetWaves fleet = Check.fleet(2);
        fleet.campaign(6, 5);
        fleet.campaign(6, 6);
        fleet.campaign(7, 1);
        fleet.campaign(5, 1);
        for (int n = 1; n <= 4; n++) {
            fleet.wave(n, 1, 1, n);
        }
        check.reported(fleet, 1, 4, 1, true);
        check.that("edition 5 is not less than 5", fleet.in(1, 1), 1);
        check.that("edition 5 is less than 6", fleet.in(2, 1), 2);
        check.that("part 7", fleet.in(3, 1), 2);
        check.that("part 5", fleet.in(4, 1), 2);
        check.that("a new one of edition 4", fleet.campaign(6, 4), 5);
        fleet.wave(5, 1, 1, 4);
        check.that("is meant for the other car", fleet.in(5, 1), 1);
    }

    private static void bad(Check check) {
        check.sentence(PROMISE, "A bad one: the car FAILED at it, once more,");
        FleetWaves fleet = Check.running(2);
        fleet.campaign(1, 1);
        check.reported(fleet, 1, 0, 1, false);
        check.that("once", fleet.failed(1), 0);
        check.that("it is meant still", fleet.in(1, 1), 2);
        check.reported(fleet, 1, 100, 1, false);
        check.that("twice", fleet.failed(1), 1);
        check.that("it is meant still", fleet.in(1, 1), 2);
        check.that("the other car", fleet.failed(2), 0);
        check.that("two bad ones", fleet.share(1, 0), 1);
        check.that("of two", fleet.share(1, 1), 1);
    }

    private static void atTheTimeToldLast(Check check) {
        check.sentence(PROMISE, "at the time that was told last.");
        FleetWaves byDue = Check.running(2);
        byDue.due(1, 0);
        byDue.due(2, 30);
        check.that("refused time", byDue.due(2, 29), -2);
        check.that("no such car", byDue.due(3, 60), -1);
        byDue.report(1, 1, false);
        check.that("99 after another car's due", byDue.due(1, 129), 0);
        check.that("100 after it", byDue.due(1, 130), 1);
        FleetWaves byWave = Check.running(1);
        byWave.due(1, 0);
        check.that("wave at 40", byWave.wave(1, 1, 1, 40), 2);
        check.that("refused wave at 70", byWave.wave(1, 1, 2, 70), -2);
        byWave.report(1, 1, false);
        check.that("99 after the wave", byWave.due(1, 139), 0);
        check.that("100 after it", byWave.due(1, 140), 1);
        FleetWaves atZero = Check.running(1);
        check.reported(atZero, 1, 0, 1, false);
        check.that("99 after 0", atZero.due(1, 99), 0);
        check.that("100 after 0", atZero.due(1, 100), 1);
    }

    private static void notBegunAnyMore(Check check) {
        check.sentence(PROMISE, "Either way it has not BEGUN it any more.");
        for (int good = 0; good <= 1; good++) {
            FleetWaves fleet = Check.running(3);
            check.reported(fleet, 1, 0, 1, good == 1);
            check.that("good again", fleet.report(1, 1, true), -3);
            check.that("bad again", fleet.report(1, 1, false), -3);
            check.that("it does not stay due", fleet.due(1, 0), 0);
            check.that("cars that have not begun it", fleet.stop(1), 3 - good);
        }
    }

    private static void withoutARule(Check check) {
        check.sentence(PROMISE, "Behind each report the campaign's RULE is looked at, if it has one:");
        FleetWaves fleet = Check.running(3);
        check.reported(fleet, 1, 0, 1, false);
        check.reported(fleet, 2, 0, 1, false);
        check.that("2/2 without a rule", fleet.state(1), 1);
        fleet.campaign(1, 1);
        fleet.rule(2, 0, 1);
        check.reported(fleet, 3, 0, 1, false);
        check.that("another one's rule", fleet.state(1), 1);
        FleetWaves each = Check.running(4);
        each.rule(1, 1, 3);
        check.reported(each, 1, 0, 1, false);
        check.that("behind a bad one: 1/1", each.state(1), 2);
        each.wave(1, 1, 1, 0);
        check.reported(each, 2, 0, 1, true);
        check.that("behind a good one: 1/2", each.state(1), 2);
        each.wave(1, 1, 1, 0);
        check.reported(each, 3, 0, 1, true);
        check.that("behind a good one: 1/3", each.state(1), 1);
    }

    private static void moreThanTheRule(Check check) {
        check.sentence(PROMISE, "bad reports / all reports is more than the RULE's share (exactly), "
                + "it is PAUSED.");
        FleetWaves fleet = Check.running(5);
        fleet.rule(1, 2, 4);
        check.reported(fleet, 1, 0, 1, true);
        check.that("0/1", fleet.state(1), 1);
        check.reported(fleet, 2, 0, 1, false);
        check.that("1/2 is as much", fleet.state(1), 1);
        check.reported(fleet, 3, 0, 1, false);
        check.that("2/3 is more", fleet.state(1), 2);
        check.that("it is not due any more", fleet.due(4, 0), 0);
    }

    private static void moreThanTheRuleByAHair(Check check) {
        check.sentence(PROMISE, "bad reports / all reports is more than the RULE's share (exactly)");
        long[] ups = {357913940L, 357913941L, 357913942L};
        int[] states = {2, 1, 1};
        for (int i = 0; i < ups.length; i++) {
            // 357913941 / 1073741823 is 1/3.
            FleetWaves fleet = Check.running(3);
            fleet.rule(1, ups[i], 1073741823L);
            check.reported(fleet, 1, 0, 1, true);
            check.reported(fleet, 2, 0, 1, true);
            check.reported(fleet, 3, 0, 1, false);
            check.that("1/3 and " + ups[i] + " / 1073741823", fleet.state(1), states[i]);
        }
    }

    private static void edgesOfRules(Check check) {
        check.sentence(PROMISE, "bad reports / all reports is more than the RULE's share (exactly)");
        FleetWaves zero = Check.running(2);
        zero.rule(1, 0, 1);
        check.reported(zero, 1, 0, 1, true);
        check.that("0/1 is not more than 0", zero.state(1), 1);
        check.reported(zero, 2, 0, 1, false);
        check.that("1/2 is", zero.state(1), 2);
        FleetWaves one = Check.running(2);
        one.rule(1, 1, 1);
        check.reported(one, 1, 0, 1, false);
        check.reported(one, 2, 0, 1, false);
        check.that("2/2 is not more than 1", one.state(1), 1);
        FleetWaves almostOne = Check.running(1);
        almostOne.rule(1, Check.GREATEST_DOWN - 1, Check.GREATEST_DOWN);
        check.reported(almostOne, 1, 0, 1, false);
        check.that("1/1 is more than 1 - 2^-30", almostOne.state(1), 2);
    }

    private static void runningOnly(Check check) {
        check.sentence(PROMISE, "if it is RUNNING and");
        FleetWaves fleet = Check.running(4);
        fleet.rule(1, 0, 1);
        for (int car = 1; car <= 4; car++) {
            fleet.due(car, 0);
        }
        fleet.report(1, 1, false);
        check.that("running, then paused", fleet.state(1), 2);
        check.that("a report while it is paused", fleet.report(2, 1, false), 1);
        check.that("paused still", fleet.state(1), 2);
        fleet.stop(1);
        check.that("a report while it is stopped", fleet.report(3, 1, false), 1);
        check.that("stopped still", fleet.state(1), 3);
        check.that("a good one while it is stopped", fleet.report(4, 1, true), 1);
        check.that("all of them count, above", fleet.share(1, 0), 3);
        check.that("all of them count, below", fleet.share(1, 1), 4);
    }
}
