import java.util.Random;

/** Calls of a long run, from a fixed seed, that stay near to what a fleet is used for. */
final class RandomCalls {
    private final Random random;
    private final int manyCars;
    private final int manyCampaigns;
    private final int manyParts;
    private long time = 0;
    private int lastCar = 1;
    private int lastCampaign = 1;
    private int made = 0;

    RandomCalls(int seed) {
        random = new Random(seed);
        manyCars = 1 + random.nextInt(seed % 3 == 0 ? 60 : 8);
        manyCampaigns = 1 + random.nextInt(seed % 4 == 0 ? 45 : 9);
        manyParts = 1 + random.nextInt(8);
    }

    Call next() {
        made++;
        int kind = made < 30 && random.nextInt(3) > 0 ? random.nextInt(25) : random.nextInt(100);
        return kind < 25 ? setUp(kind) : kind < 75 ? live(kind) : look(kind);
    }

    /** What a call answered, for the calls behind it to go on from there. */
    void answered(Call call, long answer) {
        boolean told = call.kind() == Call.Kind.WAVE && answer > 0
                || call.kind() == Call.Kind.DUE && answer >= 0;
        time = told ? call.t() : time;
        if (call.kind() == Call.Kind.DUE && answer > 0) {
            lastCar = call.first();
            lastCampaign = (int) answer;
        }
    }

    private int someCar() {
        return random.nextInt(25) == 0 ? random.nextInt(600) - 50 : 1 + random.nextInt(manyCars);
    }

    private int someCampaign() {
        return random.nextInt(25) == 0 ? random.nextInt(50) - 5 : 1 + random.nextInt(manyCampaigns);
    }

    private int someEdition(int usual) {
        return random.nextInt(20) == 0 ? random.nextInt(1100) - 50 : usual;
    }

    private long someTime() {
        int kind = random.nextInt(40);
        if (kind == 0) {
            return time - 1 - random.nextInt(5);
        }
        return kind < 15 ? time : time + random.nextInt(kind < 35 ? 12 : 110);
    }

    private long someDown() {
        int kind = random.nextInt(12);
        return kind == 0 ? (1L << 30) + random.nextInt(3) - 1 : random.nextInt(kind < 10 ? 9 : 40);
    }

    private long someUp(long down) {
        int kind = random.nextInt(14);
        if (kind < 5) {
            return down;
        }
        return kind == 5 ? down + 1 : (long) (random.nextDouble() * (down + 1)) - (kind == 6 ? 1 : 0);
    }

    private int someFormula() {
        return random.nextInt(20) == 0
                ? random.nextInt(9000000) - 100000
                : Check.formula(random.nextInt(manyParts), 1 + random.nextInt(2), random.nextInt(3));
    }

    private Call withShare(Call.Kind kind) {
        long down = someDown();
        return Call.withShare(kind, someCampaign(), someUp(down), down, someTime());
    }

    private Call setUp(int kind) {
        if (kind < 9) {
            long number = random.nextInt(10) == 0 ? random.nextLong() : random.nextInt(3 * manyCars + 1);
            return Call.car(number, someEdition(random.nextInt(3)));
        }
        return kind < 18
                ? Call.of(Call.Kind.CAMPAIGN, someFormula(), someEdition(1 + random.nextInt(8)))
                : withShare(Call.Kind.WAVE);
    }

    private Call live(int kind) {
        if (kind < 52) {
            return Call.due(someCar(), someTime());
        }
        int car = random.nextInt(6) == 0 ? someCar() : lastCar;
        int campaign = random.nextInt(6) == 0 ? someCampaign() : lastCampaign;
        return Call.of(Call.Kind.REPORT, car, campaign, random.nextInt(5) < 2);
    }

    private Call look(int kind) {
        if (kind < 79) {
            return Call.of(Call.Kind.SHARE, someCampaign(), random.nextInt(3) - 1);
        } else if (kind < 82) {
            return withShare(Call.Kind.RULE);
        } else if (kind < 85) {
            return Call.of(Call.Kind.STATE, someCampaign(), 0);
        } else if (kind < 86) {
            return Call.of(Call.Kind.STOP, someCampaign(), 0);
        } else if (kind < 89) {
            return Call.of(Call.Kind.CONSENT, someCar(), 0, random.nextInt(4) > 0);
        } else if (kind < 92) {
            return Call.of(Call.Kind.FAILED, someCar(), 0);
        } else if (kind < 95) {
            return Call.of(Call.Kind.IN, someCampaign(), random.nextInt(5));
        }
        return Call.of(Call.Kind.ORDER, someCampaign(), someCampaign());
    }
}
