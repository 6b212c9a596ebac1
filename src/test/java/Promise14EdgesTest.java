/** Promise 14 by its sentences: each edge of order, and of the Terms' BEFORE. */
public final class Promise14EdgesTest {
    private static final String PROMISE = "Promise 14";

    public static void main(String[] args) {
        Check check = new Check();
        run(check);
        check.end();
    }

    static void run(Check check) {
        fromNowOn(check);
        toldAgain(check);
        newcomersKeepIt(check);
        beforeAlready(check);
        byOneInBetween(check);
        byManyInBetween(check);
        byEditionsInBetween(check);
        zeroChangesNothing(check);
        beforeByPartAndEdition(check);
        noSuchCampaign(check);
        theyAreOne(check);
        firstThatFits(check);
    }

    private static FleetWaves ofParts(int count) {
        FleetWaves fleet = Check.fleet(2);
        for (int part = 0; part < count; part++) {
            fleet.campaign(part, 1);
        }
        return fleet;
    }

    private static void fromNowOn(Check check) {
        check.sentence(PROMISE, "The other campaign is BEFORE this one from now on: 1;");
        FleetWaves fleet = ofParts(2);
        fleet.wave(1, 1, 1, 0);
        check.that("just before it was told", fleet.due(1, 0), 1);
        check.that("2 before 1", fleet.order(1, 2), 1);
        check.that("from now on 1 has to wait", fleet.due(2, 0), 0);
        fleet.wave(2, 1, 1, 0);
        check.reported(fleet, 2, 0, 2, true);
        check.that("2 is done", fleet.due(2, 0), 1);
        check.that("what was begun stays", fleet.due(1, 0), 1);
    }

    private static void toldAgain(Check check) {
        check.sentence(PROMISE, "The other campaign is BEFORE this one from now on: 1;");
        FleetWaves fleet = ofParts(3);
        check.that("told", fleet.order(1, 2), 1);
        check.that("told again", fleet.order(1, 2), 1);
        check.that("and of a third one", fleet.order(1, 3), 1);
        check.that("both are before it", fleet.order(2, 1), 0);
        check.that("both are before it", fleet.order(3, 1), 0);
        check.that("these two are free", fleet.order(2, 3), 1);
        fleet.stop(2);
        check.that("stopped ones can be told of", fleet.order(1, 2), 1);
        check.that("and stay before", fleet.order(2, 1), 0);
    }

    private static void newcomersKeepIt(Check check) {
        check.sentence(PROMISE, "The other campaign is BEFORE this one from now on: 1;");
        FleetWaves fleet = new FleetWaves();
        fleet.campaign(0, 5);
        fleet.campaign(1, 5);
        check.that("2 before 1", fleet.order(1, 2), 1);
        check.that("a lesser edition", fleet.campaign(0, 4), 3);
        check.that("a greater edition", fleet.campaign(0, 6), 4);
        check.that("2 is before 1 still", fleet.order(2, 1), 0);
        check.that("so 2 is before the greater edition", fleet.order(2, 4), 0);
        check.that("but not before the lesser one", fleet.order(2, 3), 1);
    }

    private static void beforeAlready(Check check) {
        check.sentence(PROMISE, "0 if this one is BEFORE the other one");
        FleetWaves fleet = ofParts(2);
        check.that("1 before 2", fleet.order(2, 1), 1);
        check.that("2 before 1", fleet.order(1, 2), 0);
        check.that("1 before 2, still", fleet.order(2, 1), 1);
        FleetWaves editions = new FleetWaves();
        editions.campaign(0, 5);
        editions.campaign(Check.formula(0, 9, 3), 4);
        check.that("5 before 4", editions.order(2, 1), 0);
        check.that("4 before 5", editions.order(1, 2), 1);
    }

    private static void byOneInBetween(Check check) {
        check.sentence(PROMISE, "also by some in between");
        FleetWaves fleet = ofParts(3);
        check.that("1 before 2", fleet.order(2, 1), 1);
        check.that("3 before 1 is free yet", ofParts(3).order(1, 3), 1);
        check.that("2 before 3", fleet.order(3, 2), 1);
        check.that("3 before 1, by 2", fleet.order(1, 3), 0);
        check.that("1 before 3, by 2 already", fleet.order(3, 1), 1);
    }

    private static void byManyInBetween(Check check) {
        check.sentence(PROMISE, "also by some in between");
        FleetWaves upward = ofParts(8);
        FleetWaves downward = ofParts(8);
        for (int n = 1; n < 7; n++) {
            check.that("upward", upward.order(n + 1, n), 1);
            check.that("downward", downward.order(n, n + 1), 1);
        }
        check.that("8 before 1 while 7 is not before 8", upward.order(1, 8), 1);
        check.that("then 7 before 8 is too late", upward.order(8, 7), 0);
        check.that("1 before 8 while 8 is not before 7", downward.order(8, 1), 1);
        check.that("then 8 before 7 is too late", downward.order(7, 8), 0);
        check.that("7 before 1", upward.order(1, 7), 0);
        check.that("1 before 7", downward.order(7, 1), 0);
    }

    private static void byEditionsInBetween(Check check) {
        check.sentence(PROMISE, "also by some in between");
        // A chain of 40: the editions 1 .. 20 of part 0, then told, the editions 1 .. 20 of part 1.
        FleetWaves fleet = new FleetWaves();
        for (int edition = 1; edition <= 20; edition++) {
            fleet.campaign(0, edition);
        }
        for (int edition = 20; edition >= 1; edition--) {
            fleet.campaign(1, edition);
        }
        check.that("not joined yet: 1 and 21 are free", fleet.order(40, 20), 1);
        check.that("the last one before the first", fleet.order(1, 21), 0);
        check.that("the first one before the last", fleet.order(21, 1), 1);
        check.that("the least of part 1 before the greatest of part 0", fleet.order(20, 40), 0);
        check.that("a middle one before another", fleet.order(10, 30), 0);
        check.that("and the other way", fleet.order(30, 10), 1);
    }

    private static FleetWaves chain() {
        FleetWaves fleet = Unchanged.livelyFleet();
        fleet.order(2, 4);
        return fleet;
    }

    private static void zeroChangesNothing(Check check) {
        check.sentence(PROMISE, "and nothing changes.");
        // 3 before 4 and 4 before 2 are told, 1 before 2 by their editions.
        new Unchanged(check, Promise14EdgesTest::chain, 10)
                .by("4 before 3", f -> f.order(3, 4), 0)
                .by("2 before 4", f -> f.order(4, 2), 0)
                .by("2 before 3, by 4", f -> f.order(3, 2), 0)
                .by("2 before 1, by editions", f -> f.order(1, 2), 0);
        FleetWaves fleet = chain();
        check.that("2 before 3", fleet.order(3, 2), 0);
        check.that("3 is due all the same", fleet.due(3, 10), 3);
    }

    private static void beforeByPartAndEdition(Check check) {
        check.sentence(PROMISE, "A campaign is BEFORE another one if that was told (order), "
                + "or if both have one PART, and its EDITION is less.");
        FleetWaves fleet = new FleetWaves();
        fleet.campaign(3, 500);
        fleet.campaign(Check.formula(3, 1024, 1023), 499);
        fleet.campaign(3, 501);
        fleet.campaign(4, 499);
        check.that("500 before 499", fleet.order(2, 1), 0);
        check.that("501 before 500", fleet.order(1, 3), 0);
        check.that("501 before 499", fleet.order(2, 3), 0);
        check.that("499 before 500", fleet.order(1, 2), 1);
        check.that("another part is free", fleet.order(4, 1), 1);
        check.that("500 is before it now, so is 499", fleet.order(2, 4), 0);
        check.that("501 is not", fleet.order(3, 4), 1);
        check.that("and then cannot be", fleet.order(4, 3), 0);
    }

    private static void noSuchCampaign(Check check) {
        check.sentence(PROMISE, "-1 there is none");
        Unchanged.lively(check)
                .by("0 and 1", f -> f.order(0, 1), -1)
                .by("1 and 0", f -> f.order(1, 0), -1)
                .by("6 and 1", f -> f.order(6, 1), -1)
                .by("1 and 6", f -> f.order(1, 6), -1)
                .by("-1 and 1", f -> f.order(-1, 1), -1)
                .by("MIN and 1", f -> f.order(Integer.MIN_VALUE, 1), -1)
                .by("1 and MAX", f -> f.order(1, Integer.MAX_VALUE), -1)
                .by("1 and 65, which is 1 modulo 64", f -> f.order(1, 65), -1);
        FleetWaves fleet = Unchanged.livelyFleet();
        check.that("5 and 1", fleet.order(5, 1), 1);
        check.that("a sixth one", fleet.campaign(7, 1), 6);
        check.that("6 and 1, now that it is there", fleet.order(6, 1), 1);
        check.that("1 and 7", fleet.order(1, 7), -1);
    }

    private static void theyAreOne(Check check) {
        check.sentence(PROMISE, "-2 they are one.");
        Unchanged.lively(check)
                .by("1 and 1", f -> f.order(1, 1), -2)
                .by("3 and 3", f -> f.order(3, 3), -2)
                .by("5 and 5", f -> f.order(5, 5), -2);
        FleetWaves fleet = ofParts(2);
        check.that("1 and 1", fleet.order(1, 1), -2);
        check.that("2 and 2", fleet.order(2, 2), -2);
        check.that("1 and 2", fleet.order(1, 2), 1);
        fleet.wave(2, 1, 1, 0);
        check.that("it does not wait for itself", fleet.due(1, 0), 2);
    }

    private static void firstThatFits(Check check) {
        check.sentence(PROMISE, "REFUSALS change nothing and answer, the first that fits: "
                + "-1 an unknown number, -2 outside a range, -3 not in this state, -4 no room.");
        FleetWaves fleet = ofParts(2);
        check.that("-1, not -2: 3 and 3", fleet.order(3, 3), -1);
        check.that("-1, not -2: 0 and 0", fleet.order(0, 0), -1);
        check.that("-2: 2 and 2", fleet.order(2, 2), -2);
    }
}
