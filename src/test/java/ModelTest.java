import java.util.Random;

/** Long runs of calls, from fixed seeds, on the class and on the model: every answer is the same. */
public final class ModelTest {
    private static final int RUNS = 600;
    private static final int CALLS = 512;

    private final Random random;
    private final int run;
    private final FleetWaves fleet = new FleetWaves();
    private final Model model = new Model();
    private final int manyCars;
    private final int manyCampaigns;
    private final int manyParts;
    private long time = 0;
    private int lastCar = 1;
    private int lastCampaign = 1;

    private ModelTest(int run) {
        this.run = run;
        this.random = new Random(run);
        this.manyCars = 1 + random.nextInt(run % 3 == 0 ? 60 : 8);
        this.manyCampaigns = 1 + random.nextInt(run % 4 == 0 ? 45 : 9);
        this.manyParts = 1 + random.nextInt(8);
    }

    public static void main(String[] args) {
        Check all = new Check();
        for (int run = 1; run <= RUNS; run++) {
            all.that("run " + run, new ModelTest(run).wrongCalls(), 0);
        }
        all.end();
    }

    private int wrongCalls() {
        int wrong = 0;
        for (int call = 1; call <= CALLS && wrong == 0; call++) {
            wrong += isSame(call) ? 0 : 1;
        }
        return wrong;
    }

    private boolean isSame(int call) {
        int kind = call < 30 && random.nextInt(3) > 0 ? random.nextInt(25) : random.nextInt(100);
        long[] answers = kind < 25 ? setUp(kind) : kind < 75 ? live(kind) : look(kind);
        boolean same = answers[0] == answers[1];
        if (!same) {
            System.out.println("run " + run + ", call " + call + " of kind " + kind + ": answered "
                    + answers[0] + ", the model " + answers[1]);
        }
        return same;
    }

    private static long[] both(long first, long second) {
        return new long[] {first, second};
    }

    private int someCar() {
        return random.nextInt(25) == 0 ? random.nextInt(600) - 50 : 1 + random.nextInt(manyCars);
    }

    private int someCampaign() {
        return random.nextInt(25) == 0 ? random.nextInt(50) - 5 : 1 + random.nextInt(manyCampaigns);
    }

    private long someTime() {
        int kind = random.nextInt(40);
        if (kind == 0) {
            return time - 1 - random.nextInt(5);
        }
        return kind < 15 ? time : time + random.nextInt(kind < 35 ? 12 : 110);
    }

    private long someDown() {
        int kind = random.nextInt(12);
        return kind == 0 ? (1L << 30) + random.nextInt(3) - 1 : random.nextInt(kind < 10 ? 9 : 40);
    }

    private long someUp(long down) {
        int kind = random.nextInt(14);
        if (kind < 5) {
            return down;
        }
        return kind == 5 ? down + 1 : (long) (random.nextDouble() * (down + 1)) - (kind == 6 ? 1 : 0);
    }

    private long[] setUp(int kind) {
        if (kind < 9) {
            long number = random.nextInt(10) == 0 ? random.nextLong() : random.nextInt(3 * manyCars + 1);
            int edition = random.nextInt(20) == 0 ? random.nextInt(1100) - 50 : random.nextInt(3);
            return both(fleet.car(number, edition), model.car(number, edition));
        }
        if (kind < 18) {
            int formula = random.nextInt(20) == 0
                    ? random.nextInt(9000000) - 100000
                    : Check.formula(random.nextInt(manyParts), 1 + random.nextInt(2), random.nextInt(3));
            int edition = random.nextInt(20) == 0 ? random.nextInt(1100) - 50 : 1 + random.nextInt(8);
            return both(fleet.campaign(formula, edition), model.campaign(formula, edition));
        }
        int campaign = someCampaign();
        long down = someDown();
        long up = someUp(down);
        long t = someTime();
        long[] answers = both(fleet.wave(campaign, up, down, t), model.wave(campaign, up, down, t));
        time = answers[1] > 0 ? t : time;
        return answers;
    }

    private long[] live(int kind) {
        if (kind < 52) {
            int car = someCar();
            long t = someTime();
            long[] answers = both(fleet.due(car, t), model.due(car, t));
            time = answers[1] >= 0 ? t : time;
            lastCar = answers[1] > 0 ? car : lastCar;
            lastCampaign = answers[1] > 0 ? (int) answers[1] : lastCampaign;
            return answers;
        }
        int car = random.nextInt(6) == 0 ? someCar() : lastCar;
        int campaign = random.nextInt(6) == 0 ? someCampaign() : lastCampaign;
        boolean good = random.nextInt(5) < 2;
        return both(fleet.report(car, campaign, good), model.report(car, campaign, good));
    }

    private long[] look(int kind) {
        int campaign = someCampaign();
        int car = someCar();
        if (kind < 79) {
            int side = random.nextInt(3) - 1;
            return both(shareOrThrows(campaign, side), model.share(campaign, side));
        } else if (kind < 82) {
            long down = someDown();
            long up = someUp(down);
            return both(fleet.rule(campaign, up, down), model.rule(campaign, up, down));
        } else if (kind < 85) {
            return both(fleet.state(campaign), model.state(campaign));
        } else if (kind < 86) {
            return both(fleet.stop(campaign), model.stop(campaign));
        } else if (kind < 89) {
            boolean on = random.nextInt(4) > 0;
            return both(fleet.consent(car, on), model.consent(car, on));
        } else if (kind < 92) {
            return both(fleet.failed(car), model.failed(car));
        } else if (kind < 95) {
            int wave = random.nextInt(5);
            return both(fleet.in(campaign, wave), model.in(campaign, wave));
        }
        int other = someCampaign();
        return both(fleet.order(campaign, other), model.order(campaign, other));
    }

    private long shareOrThrows(int campaign, int side) {
        try {
            return fleet.share(campaign, side);
        } catch (ArithmeticException due) {
            return Model.THROWS;
        }
    }
}
