/** Promise 11 by its sentences: each edge of consent. */
public final class Promise11EdgesTest {
    private static final String PROMISE = "Promise 11";

    public static void main(String[] args) {
        Check check = new Check();
        run(check);
        check.end();
    }

    static void run(Check check) {
        atFirst(check);
        anotherWayOrNot(check);
        fromNowOn(check);
        noCar(check);
    }

    private static void atFirst(Check check) {
        check.sentence(PROMISE, "A car CONSENTS at first.");
        check.that("on, at first", Check.fleet(1).consent(1, true), 0);
        check.that("off, at first", Check.fleet(1).consent(1, false), 1);
        check.that("due at first", Check.running(1).due(1, 0), 1);
    }

    private static void anotherWayOrNot(Check check) {
        check.sentence(PROMISE, "1 if that is another way than before, 0 if not.");
        FleetWaves fleet = Check.fleet(2);
        check.that("off", fleet.consent(1, false), 1);
        check.that("off again", fleet.consent(1, false), 0);
        check.that("on", fleet.consent(1, true), 1);
        check.that("on again", fleet.consent(1, true), 0);
        check.that("off once more", fleet.consent(1, false), 1);
        check.that("the other car consents still", fleet.consent(2, true), 0);
        check.that("the other car, off", fleet.consent(2, false), 1);
        Unchanged.lively(check)
                .by("off for one that is off", f -> f.consent(1, false), 0)
                .by("on for one that is on", f -> f.consent(3, true), 0)
                .by("on for one that has begun", f -> f.consent(4, true), 0);
    }

    private static void fromNowOn(Check check) {
        check.sentence(PROMISE, "A car CONSENTS from now on, or not:");
        FleetWaves fleet = Check.running(3);
        fleet.consent(1, false);
        check.that("off", fleet.due(1, 0), 0);
        fleet.consent(1, false);
        check.that("off twice is no on", fleet.due(1, 0), 0);
        fleet.consent(1, true);
        check.that("on", fleet.due(1, 0), 1);
        fleet.consent(1, false);
        check.that("off, but begun", fleet.due(1, 0), 1);
        check.that("report", fleet.report(1, 1, false), 1);
        check.that("off, and not begun any more", fleet.due(1, 100), 0);
        fleet.consent(1, true);
        check.that("on", fleet.due(1, 100), 1);
        fleet.consent(2, false);
        check.that("it is meant with or without", fleet.in(1, 1), 3);
        check.that("stop counts it with or without", fleet.stop(1), 2);
    }

    private static void noCar(Check check) {
        check.sentence(PROMISE, "-1 there is none.");
        Unchanged.lively(check)
                .by("car 0", f -> f.consent(0, false), -1)
                .by("car 5", f -> f.consent(5, false), -1)
                .by("car -1", f -> f.consent(-1, true), -1)
                .by("car MIN", f -> f.consent(Integer.MIN_VALUE, true), -1)
                .by("car MAX", f -> f.consent(Integer.MAX_VALUE, false), -1);
        FleetWaves fleet = Unchanged.livelyFleet();
        check.that("car 1", fleet.consent(1, true), 1);
        check.that("car 4", fleet.consent(4, true), 0);
        check.that("car 5", fleet.consent(5, false), -1);
        check.that("a fifth car", fleet.car(5, 0), 5);
        check.that("car 5, which consents at first", fleet.consent(5, false), 1);
    }
}
