import java.util.ArrayList;
import java.util.HashMap;
import java.util.List;
import java.util.Map;

/** Counts and prints the answers that are not as due; helps to set up a fleet. */
final class Check {
    /** Stands for an ArithmeticException where an answer is compared. */
    static final long THROWS = Model.THROWS;
    static final long GREATEST_DOWN = 1L << 30;

    private final Map<String, List<String>> named = new HashMap<>();
    private String heading = "";
    private int wrong;

    /** What is checked from now on is a promise's sentence, in the document's own words. */
    void sentence(String promise, String words) {
        heading = promise + ", \"" + words + "\": ";
        named.computeIfAbsent(promise, p -> new ArrayList<>()).add(words);
        if (!Doc.says(promise, words)) {
            wrong++;
            System.out.println(heading + "the document has no such words for it");
        }
    }

    /** The words that were named for a promise so far. */
    List<String> named(String promise) {
        return named.getOrDefault(promise, List.of());
    }

    void that(String call, long got, long due) {
        if (got != due) {
            wrong++;
            System.out.println(heading + call + " answered " + text(got) + ", due is " + text(due));
        }
    }

    void shareThrows(String call, FleetWaves fleet, int campaign, int side) {
        that(call, share(fleet, campaign, side), THROWS);
    }

    void end() {
        if (wrong != 0) {
            System.out.println(wrong + " answers are not as due");
            System.exit(1);
        }
        System.out.println("all answers are as due");
    }

    private static String text(long answer) {
        return answer == THROWS ? "an ArithmeticException" : Long.toString(answer);
    }

    static long share(FleetWaves fleet, int campaign, int side) {
        try {
            return fleet.share(campaign, side);
        } catch (ArithmeticException due) {
            return THROWS;
        }
    }

    static int formula(int part, int modulus, int k) {
        return part + 8 * (modulus - 1) + 8192 * k;
    }

    /** A fleet with the cars of the numbers 1 .. count, all of edition 0. */
    static FleetWaves fleet(int count) {
        FleetWaves fleet = new FleetWaves();
        for (int number = 1; number <= count; number++) {
            fleet.car(number, 0);
        }
        return fleet;
    }

    /** Such a fleet with one campaign, meant for all of it, and a wave for all from the time 0 on. */
    static FleetWaves running(int count) {
        FleetWaves fleet = fleet(count);
        fleet.campaign(0, 1);
        fleet.wave(1, 1, 1, 0);
        return fleet;
    }

    /** Has a car begin what is due at a time, and report on it. */
    void reported(FleetWaves fleet, int car, long t, int campaign, boolean good) {
        that("due(" + car + ", " + t + ") before a report", fleet.due(car, t), campaign);
        that("report(" + car + ", " + campaign + ")", fleet.report(car, campaign, good), 1);
    }
}
