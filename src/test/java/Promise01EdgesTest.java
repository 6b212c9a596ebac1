/** Promise 1 by its sentences: the empty object, and how long an object is used. */
public final class Promise01EdgesTest {
    private static final String PROMISE = "Promise 1";
    private static final int[] NUMBERS = {
        Integer.MIN_VALUE, -1, 0, 1, 2, 40, 500, Integer.MAX_VALUE,
    };

    public static void main(String[] args) {
        Check check = new Check();
        run(check);
        check.end();
    }

    static void run(Check check) {
        nobodyIsThere(check);
        oneOfEach(check);
        lastOf512Calls(check);
        behind512Calls(check);
    }

    private static void nobodyIsThere(Check check) {
        check.sentence(PROMISE, "No cars, no campaigns.");
        for (int n : NUMBERS) {
            check.that("due(" + n + ", 0)", new FleetWaves().due(n, 0), -1);
            check.that("due(" + n + ", -1)", new FleetWaves().due(n, -1), -1);
            check.that("consent(" + n + ")", new FleetWaves().consent(n, false), -1);
            check.that("failed(" + n + ")", new FleetWaves().failed(n), -1);
            check.that("report(" + n + ")", new FleetWaves().report(n, n, true), -1);
            check.that("state(" + n + ")", new FleetWaves().state(n), -1);
            check.that("stop(" + n + ")", new FleetWaves().stop(n), -1);
            check.that("wave(" + n + ")", new FleetWaves().wave(n, 1, 1, 0), -1);
            check.that("rule(" + n + ")", new FleetWaves().rule(n, 1, 1), -1);
            check.that("in(" + n + ")", new FleetWaves().in(n, 1), -1);
            check.that("order(" + n + ")", new FleetWaves().order(n, n), -1);
            check.that("share(" + n + ")", Check.share(new FleetWaves(), n, 0), -1);
        }
    }

    private static void oneOfEach(Check check) {
        check.sentence(PROMISE, "No cars, no campaigns.");
        FleetWaves withCar = new FleetWaves();
        check.that("the first car", withCar.car(1, 0), 1);
        check.that("car 1 is there", withCar.failed(1), 0);
        check.that("car 2 is not", withCar.failed(2), -1);
        check.that("campaign 1 is not", withCar.state(1), -1);
        FleetWaves withCampaign = new FleetWaves();
        check.that("the first campaign", withCampaign.campaign(0, 1), 1);
        check.that("campaign 1 is there", withCampaign.state(1), 0);
        check.that("campaign 2 is not", withCampaign.state(2), -1);
        check.that("car 1 is not", withCampaign.failed(1), -1);
        check.that("another object has none of it", new FleetWaves().state(1), -1);
    }

    private static FleetWaves after509Calls() {
        FleetWaves fleet = new FleetWaves();
        for (int n = 1; n <= 500; n++) {
            fleet.car(n, 0);
        }
        for (int part = 0; part < 8; part++) {
            fleet.campaign(part, 1);
        }
        fleet.wave(8, 1, 1, 7);
        return fleet;
    }

    private static void lastOf512Calls(Check check) {
        check.sentence(PROMISE, "An object is used for at most 512 calls after it has been made;");
        FleetWaves fleet = after509Calls();
        check.that("call 510, due", fleet.due(500, 7), 8);
        check.that("call 511, report", fleet.report(500, 8, true), 1);
        check.that("call 512, in", fleet.in(8, 1), 499);
        FleetWaves other = after509Calls();
        check.that("call 510, due", other.due(499, 7), 8);
        check.that("call 511, refused", other.due(499, 6), -2);
        check.that("call 512, stop", other.stop(8), 499);
    }

    private static void behind512Calls(Check check) {
        check.sentence(PROMISE, "what later calls answer is free.");
        FleetWaves fleet = after509Calls();
        RandomCalls calls = new RandomCalls(1);
        for (int made = 510; made <= 3000; made++) {
            // Whatever it answers, it does answer: nothing but share's exception is thrown.
            Call call = calls.next();
            calls.answered(call, call.on(fleet));
        }
    }
}
