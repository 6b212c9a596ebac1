/** Promise 11: consent. */
public final class Promise11ConsentTest {
    public static void main(String[] args) {
        Check check = new Check();
        FleetWaves fleet = Check.fleet(2);
        fleet.campaign(0, 1);
        fleet.wave(1, 1, 1, 0);
        check.that("no car 0", fleet.consent(0, false), -1);
        check.that("no car 3", fleet.consent(3, true), -1);
        check.that("no car MIN", fleet.consent(Integer.MIN_VALUE, true), -1);
        check.that("no car MAX", fleet.consent(Integer.MAX_VALUE, true), -1);
        check.that("consents at first", fleet.consent(1, true), 0);
        check.that("off", fleet.consent(1, false), 1);
        check.that("off again", fleet.consent(1, false), 0);
        check.that("nothing due", fleet.due(1, 0), 0);
        check.that("the other car", fleet.due(2, 0), 1);
        check.that("the other car consents", fleet.consent(2, true), 0);
        check.that("still meant", fleet.in(1, 1), 2);
        check.that("on", fleet.consent(1, true), 1);
        check.that("on again", fleet.consent(1, true), 0);
        check.that("due", fleet.due(1, 0), 1);
        check.end();
    }
}
