/** Counts and prints the answers that are not as due; helps to set up a fleet. */
final class Check {
    private int wrong;

    void that(String call, long got, long due) {
        if (got != due) {
            wrong++;
            System.out.println(call + " answered " + got + ", due is " + due);
        }
    }

    void shareThrows(String call, FleetWaves fleet, int campaign, int side) {
        try {
            long got = fleet.share(campaign, side);
            wrong++;
            System.out.println(call + " answered " + got + ", due is an ArithmeticException");
        } catch (ArithmeticException due) {
            return;
        }
    }

    void end() {
        if (wrong != 0) {
            System.out.println(wrong + " answers are not as due");
            System.exit(1);
        }
        System.out.println("all answers are as due");
    }

    static int formula(int part, int modulus, int k) {
        return part + 8 * (modulus - 1) + 8192 * k;
    }

    /** A fleet with the cars of the numbers 1 .. count, all of edition 0. */
    static FleetWaves fleet(int count) {
        FleetWaves fleet = new FleetWaves();
        for (int number = 1; number <= count; number++) {
            fleet.car(number, 0);
        }
        return fleet;
    }

    /** Has a car begin what is due at a time, and report on it. */
    void reported(FleetWaves fleet, int car, long t, int campaign, boolean good) {
        that("due(" + car + ", " + t + ") before a report", fleet.due(car, t), campaign);
        that("report(" + car + ", " + campaign + ")", fleet.report(car, campaign, good), 1);
    }
}
