import java.util.concurrent.atomic.AtomicInteger;

/** The sections that hold for all promises, by their sentences: "What it is" and "Not promised". */
public final class WholeDocumentTest {
    private static final String WHAT_IT_IS = "What it is";
    private static final String NOT_PROMISED = "Not promised";
    private static final int CALLS = 512;

    public static void main(String[] args) {
        Check check = new Check();
        run(check);
        check.end();
    }

    static void run(Check check) {
        newEditions(check);
        formulaAndWaves(check);
        oneBehindTheOther(check);
        consentAndRetries(check);
        exactRules(check);
        pausesAndStops(check);
        allOf512Calls(check);
        objectsOwnMethods(check);
        severalThreads(check);
        nothingBeyond(check);
    }

    private static void newEditions(Check check) {
        check.sentence(WHAT_IT_IS, "A fleet of cars whose parts get new editions in campaigns:");
        FleetWaves fleet = Check.fleet(2);
        fleet.campaign(0, 1);
        fleet.campaign(7, 1000);
        fleet.wave(2, 1, 1, 0);
        check.reported(fleet, 2, 0, 2, true);
        check.that("car 2 has edition 1000 of part 7", fleet.in(2, 1), 1);
        fleet.wave(1, 1, 1, 0);
        check.that("and is still without edition 1 of part 0", fleet.in(1, 1), 2);
    }

    private static void formulaAndWaves(Check check) {
        check.sentence(WHAT_IT_IS, "who is meant by a formula, waves by shares of a digest of car numbers,");
        FleetWaves fleet = Check.fleet(100);
        fleet.campaign(Check.formula(3, 10, 7), 1);
        fleet.wave(1, 0, 1, 0);
        fleet.wave(1, 1, 1, 0);
        check.that("in a wave of none", fleet.in(1, 1), 0);
        check.that("in a wave of all are 7, 17 .. 97", fleet.in(1, 2), 10);
        check.that("not meant", fleet.due(8, 0), 0);
        check.that("meant", fleet.due(97, 0), 1);
    }

    private static void oneBehindTheOther(Check check) {
        check.sentence(WHAT_IT_IS, "campaigns one behind the other,");
        FleetWaves fleet = Check.fleet(1);
        for (int part = 0; part < 8; part++) {
            fleet.campaign(part, 1);
        }
        for (int campaign = 1; campaign < 8; campaign++) {
            check.that("order", fleet.order(campaign, campaign + 1), 1);
        }
        check.that("not round", fleet.order(8, 1), 0);
        for (int campaign = 1; campaign <= 8; campaign++) {
            fleet.wave(campaign, 1, 1, campaign);
        }
        for (int campaign = 8; campaign >= 1; campaign--) {
            check.reported(fleet, 1, 8, campaign, true);
        }
        check.that("all is done", fleet.due(1, 8), 0);
    }

    private static void consentAndRetries(Check check) {
        check.sentence(WHAT_IT_IS, "consent, retries,");
        FleetWaves fleet = Check.running(1);
        check.reported(fleet, 1, 0, 1, false);
        fleet.consent(1, false);
        check.that("a retry without consent", fleet.due(1, 100), 0);
        fleet.consent(1, true);
        check.that("the retry", fleet.due(1, 100), 1);
    }

    private static void exactRules(Check check) {
        check.sentence(WHAT_IT_IS, "health rules with exact shares,");
        FleetWaves fleet = Check.running(3);
        check.reported(fleet, 1, 0, 1, false);
        check.reported(fleet, 2, 0, 1, true);
        check.reported(fleet, 3, 0, 1, true);
        check.that("1/3 is 1/3", fleet.rule(1, 357913941, 1073741823), 0);
        check.that("and more than a little less", fleet.rule(1, 357913941, 1073741824), 1);
    }

    private static void pausesAndStops(Check check) {
        check.sentence(WHAT_IT_IS, "pauses and stops.");
        FleetWaves fleet = Check.running(3);
        check.reported(fleet, 1, 0, 1, false);
        fleet.rule(1, 0, 1);
        check.that("paused", fleet.due(2, 0), 0);
        fleet.wave(1, 1, 1, 0);
        check.that("running again", fleet.due(2, 0), 1);
        fleet.stop(1);
        check.that("stopped", fleet.due(3, 0), 0);
        check.that("for good", fleet.wave(1, 1, 1, 0), -3);
    }

    private static void allOf512Calls(Check check) {
        check.sentence(WHAT_IT_IS, "An object is used for at most 512 calls after it has been made;");
        FleetWaves fleet = new FleetWaves();
        for (int call = 1; call <= 500; call++) {
            check.that("call " + call, fleet.car(call, 0), call);
        }
        for (int call = 501; call <= CALLS; call++) {
            check.that("call " + call, fleet.campaign(call % 8, call), call - 500);
        }
        check.sentence(WHAT_IT_IS, "what later calls answer is free.");
        check.sentence(NOT_PROMISED, "and nothing about an object after its 512th call.");
        // Free is the answer; that there is one is LANGUAGE.md's seventh rule.
        for (int n = 0; n < 100; n++) {
            fleet.car(1000 + n, 0);
            fleet.campaign(n, 1000);
            Check.share(fleet, n, 0);
        }
    }

    private static void objectsOwnMethods(Check check) {
        check.sentence(NOT_PROMISED, "How the state is held inside the object is free, as are the speed of "
                + "each call, the text of toString and the behaviour of equals and hashCode.");
        Unchanged.lively(check)
                .by("toString", fleet -> fleet.toString().isEmpty() ? 1 : 0, 0)
                .by("equals", fleet -> fleet.equals(null) ? 1 : 0, 0)
                .by("hashCode", fleet -> fleet.hashCode() == fleet.hashCode() ? 1 : 0, 1);
    }

    private static void severalThreads(Check check) {
        check.sentence(NOT_PROMISED, "Use of one object from several threads at once is not promised to be "
                + "safe.");
        // An object for each thread is safe, since objects share nothing.
        AtomicInteger wrong = new AtomicInteger();
        Thread[] threads = new Thread[4];
        for (int i = 0; i < threads.length; i++) {
            int seed = 1000 + i;
            threads[i] = new Thread(() -> wrong.addAndGet(wrongAnswers(seed)));
            threads[i].start();
        }
        for (Thread thread : threads) {
            try {
                thread.join();
            } catch (InterruptedException e) {
                wrong.incrementAndGet();
            }
        }
        check.that("wrong answers of objects in threads of their own", wrong.get(), 0);
    }

    private static int wrongAnswers(int seed) {
        int wrong = 0;
        for (int run = 0; run < 20; run++) {
            FleetWaves fleet = new FleetWaves();
            Model model = new Model();
            RandomCalls calls = new RandomCalls(seed + 10 * run);
            for (int made = 1; made <= CALLS; made++) {
                Call call = calls.next();
                long due = call.on(model);
                wrong += call.on(fleet) == due ? 0 : 1;
                calls.answered(call, due);
            }
        }
        return wrong;
    }

    private static void nothingBeyond(Check check) {
        check.sentence(NOT_PROMISED, "Nothing is promised beyond the answers and state changes described above,");
        // To look at a fleet is no change that the document describes.
        Unchanged.lively(check)
                .by("state", fleet -> fleet.state(4), 2)
                .by("failed", fleet -> fleet.failed(2), 0)
                .by("in", fleet -> fleet.in(1, 1), 1)
                .by("share", fleet -> Check.share(fleet, 1, 1), 2)
                .by("share without reports", fleet -> Check.share(fleet, 2, 0), Check.THROWS);
    }
}
