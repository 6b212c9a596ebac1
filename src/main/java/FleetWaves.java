import java.util.ArrayList;

/**
 * A fleet of cars whose parts get new editions in campaigns.
 *
 * The words in capitals (MEANT, BEFORE, BEGUN ..) are those of the document DOC.md.
 */
public final class FleetWaves {
    private static final int UNKNOWN = -1;
    private static final int OUTSIDE_RANGE = -2;
    private static final int WRONG_STATE = -3;
    private static final int NO_ROOM = -4;

    private static final int NEW = 0;
    private static final int RUNNING = 1;
    private static final int PAUSED = 2;
    private static final int STOPPED = 3;

    private static final int MAX_CARS = 500;
    private static final int MAX_CAMPAIGNS = 40;
    private static final int MAX_WAVES = 20;
    private static final int MAX_EDITION = 1000;
    private static final int MAX_FORMULA = 8388607;
    private static final long MAX_DOWN = 1L << 30;

    private static final int PARTS = 8;
    private static final int MODULI = 1024;
    private static final int MAX_FAILURES = 2;
    private static final long RETRY_AFTER = 100;
    private static final long NO_WAVE = -1;
    /** Far above what Euclid's steps need for two ints. */
    private static final int MAX_EUCLID_STEPS = 100;

    private static final int DIGEST_SHIFT = 33;
    private static final long DIGEST_FIRST_FACTOR = -49064778989728563L;
    private static final long DIGEST_SECOND_FACTOR = -4265267296055464877L;

    private final ArrayList<Car> cars = new ArrayList<>();
    private final ArrayList<Campaign> campaigns = new ArrayList<>();
    /** The time that was told last; it starts at 0, so that no time below 0 is taken. */
    private long now;

    public FleetWaves() {
    }

    public int car(long number, int edition) {
        if (number < 1 || edition < 0 || edition > MAX_EDITION) {
            return OUTSIDE_RANGE;
        }
        if (hasCarOfNumber(number)) {
            return WRONG_STATE;
        }
        if (cars.size() >= MAX_CARS) {
            return NO_ROOM;
        }
        cars.add(new Car(number, edition));
        return cars.size();
    }

    public int campaign(int formula, int edition) {
        if (formula < 0 || formula > MAX_FORMULA || edition < 1 || edition > MAX_EDITION) {
            return OUTSIDE_RANGE;
        }
        // A refusal goes before the answer 0, as it does in every other call.
        if (campaigns.size() >= MAX_CAMPAIGNS) {
            return NO_ROOM;
        }
        if (hasCampaignOf(Campaign.partOf(formula), edition)) {
            return 0;
        }
        Campaign added = new Campaign(campaigns.size() + 1, formula, edition);
        orderWithinPart(added);
        campaigns.add(added);
        return added.number;
    }

    public int wave(int campaign, long up, long down, long t) {
        Campaign target = findCampaign(campaign);
        if (target == null) {
            return UNKNOWN;
        }
        if (!isShare(up, down) || t < now || target.hasGreaterShareThan(up, down)) {
            return OUTSIDE_RANGE;
        }
        if (target.state == STOPPED) {
            return WRONG_STATE;
        }
        if (target.waves.size() >= MAX_WAVES) {
            return NO_ROOM;
        }
        now = t;
        target.waves.add(new Wave(up, down, t));
        target.state = RUNNING;
        return target.waves.size();
    }

    public int due(int car, long t) {
        Car asking = findCar(car);
        if (asking == null) {
            return UNKNOWN;
        }
        if (t < now) {
            return OUTSIDE_RANGE;
        }
        now = t;
        if (asking.begun == 0) {
            asking.begun = nextFor(asking);
        }
        return asking.begun;
    }

    public int report(int car, int campaign, boolean good) {
        Car reporting = findCar(car);
        Campaign target = findCampaign(campaign);
        if (reporting == null || target == null) {
            return UNKNOWN;
        }
        if (reporting.begun != target.number) {
            return WRONG_STATE;
        }
        reporting.begun = 0;
        target.reports++;
        if (good) {
            reporting.renew(target.part, target.edition);
        } else {
            target.badReports++;
            reporting.addFailure(target.number, now);
        }
        target.pauseIfRuleIsBroken();
        return 1;
    }

    public long share(int campaign, int side) throws ArithmeticException {
        Campaign target = findCampaign(campaign);
        if (target == null) {
            return UNKNOWN;
        }
        int divisor = greatestCommonDivisor(target.badReports, target.reports);
        // Bad reports are among all reports, so only without any report is there no divisor.
        if (divisor == 0) {
            throw new ArithmeticException("no reports");
        }
        return (side == 0 ? target.badReports : target.reports) / divisor;
    }

    public int rule(int campaign, long up, long down) {
        Campaign target = findCampaign(campaign);
        if (target == null) {
            return UNKNOWN;
        }
        if (!isShare(up, down)) {
            return OUTSIDE_RANGE;
        }
        target.ruleUp = up;
        target.ruleDown = down;
        return target.pauseIfRuleIsBroken() ? 1 : 0;
    }

    public int state(int campaign) {
        Campaign target = findCampaign(campaign);
        return target == null ? UNKNOWN : target.state;
    }

    public int stop(int campaign) {
        Campaign target = findCampaign(campaign);
        if (target == null) {
            return UNKNOWN;
        }
        if (target.state == STOPPED) {
            return WRONG_STATE;
        }
        target.state = STOPPED;
        return countNotBegun(target);
    }

    public int consent(int car, boolean on) {
        Car asked = findCar(car);
        if (asked == null) {
            return UNKNOWN;
        }
        boolean changed = asked.consents != on;
        asked.consents = on;
        return changed ? 1 : 0;
    }

    public int failed(int car) {
        Car asked = findCar(car);
        return asked == null ? UNKNOWN : asked.countGivenUp();
    }

    public int in(int campaign, int wave) {
        Campaign target = findCampaign(campaign);
        if (target == null || wave < 1 || wave > target.waves.size()) {
            return UNKNOWN;
        }
        Wave asked = target.waves.get(wave - 1);
        int count = 0;
        for (int i = 0; i < cars.size(); i++) {
            Car car = cars.get(i);
            if (target.isMeantFor(car) && asked.takes(target.digestOf(car))) {
                count++;
            }
        }
        return count;
    }

    public int order(int campaign, int other) {
        Campaign later = findCampaign(campaign);
        Campaign earlier = findCampaign(other);
        if (later == null || earlier == null) {
            return UNKNOWN;
        }
        if (later.number == earlier.number) {
            return OUTSIDE_RANGE;
        }
        if (contains(allBefore(earlier), later)) {
            return 0;
        }
        later.before |= earlier.bit();
        return 1;
    }

    private Car findCar(int number) {
        return number < 1 || number > cars.size() ? null : cars.get(number - 1);
    }

    private Campaign findCampaign(int number) {
        return number < 1 || number > campaigns.size() ? null : campaigns.get(number - 1);
    }

    private boolean hasCarOfNumber(long number) {
        for (int i = 0; i < cars.size(); i++) {
            if (cars.get(i).number == number) {
                return true;
            }
        }
        return false;
    }

    private boolean hasCampaignOf(int part, int edition) {
        for (int i = 0; i < campaigns.size(); i++) {
            Campaign present = campaigns.get(i);
            if (present.part == part && present.edition == edition) {
                return true;
            }
        }
        return false;
    }

    private void orderWithinPart(Campaign added) {
        for (int i = 0; i < campaigns.size(); i++) {
            Campaign present = campaigns.get(i);
            if (present.part != added.part) {
                continue;
            }
            if (present.edition < added.edition) {
                added.before |= present.bit();
            } else {
                present.before |= added.bit();
            }
        }
    }

    /** The campaigns BEFORE one, those by some in between too, as bits. */
    private long allBefore(Campaign last) {
        long found = last.before;
        // Each round goes at least one campaign further back on every chain.
        for (int round = 0; round < campaigns.size(); round++) {
            for (int i = 0; i < campaigns.size(); i++) {
                Campaign between = campaigns.get(i);
                if (contains(found, between)) {
                    found |= between.before;
                }
            }
        }
        return found;
    }

    /** The campaign that a car without a BEGUN one is to begin now, or 0. */
    private int nextFor(Car car) {
        if (!car.consents) {
            return 0;
        }
        int best = 0;
        long bestSince = 0;
        for (int i = 0; i < campaigns.size(); i++) {
            Campaign candidate = campaigns.get(i);
            if (!isOpenTo(candidate, car)) {
                continue;
            }
            long since = candidate.inWaveSince(car);
            if (since != NO_WAVE && (best == 0 || since < bestSince)) {
                best = candidate.number;
                bestSince = since;
            }
        }
        return best;
    }

    private boolean isOpenTo(Campaign candidate, Car car) {
        return candidate.state == RUNNING
                && candidate.isMeantFor(car)
                && car.mayTry(candidate.number, now)
                && !isHeldBack(candidate, car);
    }

    /**
     * Whether a campaign BEFORE has to come first for a car without a BEGUN one: so that a STOPPED
     * campaign, not being BEGUN, never has to.
     */
    private boolean isHeldBack(Campaign candidate, Car car) {
        for (int i = 0; i < campaigns.size(); i++) {
            Campaign earlier = campaigns.get(i);
            if (contains(candidate.before, earlier)
                    && earlier.state != STOPPED
                    && earlier.isMeantFor(car)) {
                return true;
            }
        }
        return false;
    }

    private int countNotBegun(Campaign target) {
        int count = 0;
        for (int i = 0; i < cars.size(); i++) {
            Car car = cars.get(i);
            if (target.isMeantFor(car) && car.begun != target.number) {
                count++;
            }
        }
        return count;
    }

    private static boolean contains(long bits, Campaign member) {
        return (bits & member.bit()) != 0;
    }

    private static boolean isShare(long up, long down) {
        return down >= 1 && down <= MAX_DOWN && up >= 0 && up <= down;
    }

    private static int greatestCommonDivisor(int first, int second) {
        int divisor = first;
        int rest = second;
        for (int step = 0; step < MAX_EUCLID_STEPS && rest != 0; step++) {
            int next = divisor % rest;
            divisor = rest;
            rest = next;
        }
        return divisor;
    }

    private static final class Car {
        final long number;
        final int[] editions = new int[PARTS];
        boolean consents = true;
        /**
         * The campaign that is BEGUN, or 0. One is enough: while there is one, no other is begun;
         * and it stays MEANT, for only its own report gives the car another edition.
         */
        int begun;
        /** A chain, for most cars never fail. */
        Failure failures;

        Car(long number, int edition) {
            this.number = number;
            for (int part = 0; part < editions.length; part++) {
                editions[part] = edition;
            }
        }

        boolean isOlder(int part, int edition) {
            return part >= 0 && part < editions.length && editions[part] < edition;
        }

        void renew(int part, int edition) {
            if (part >= 0 && part < editions.length) {
                editions[part] = edition;
            }
        }

        void addFailure(int campaign, long time) {
            Failure failure = failureAt(campaign);
            if (failure == null) {
                failure = new Failure(campaign, failures);
                failures = failure;
            }
            failure.times++;
            failure.last = time;
        }

        boolean mayTry(int campaign, long time) {
            Failure failure = failureAt(campaign);
            return failure == null
                    || failure.times < MAX_FAILURES && time - failure.last >= RETRY_AFTER;
        }

        int countGivenUp() {
            int count = 0;
            for (Failure failure = failures; failure != null; failure = failure.next) {
                if (failure.times >= MAX_FAILURES) {
                    count++;
                }
            }
            return count;
        }

        Failure failureAt(int campaign) {
            for (Failure failure = failures; failure != null; failure = failure.next) {
                if (failure.campaign == campaign) {
                    return failure;
                }
            }
            return null;
        }
    }

    /** How often a car FAILED at a campaign, and when it did last. */
    private static final class Failure {
        final int campaign;
        final Failure next;
        int times;
        long last;

        Failure(int campaign, Failure next) {
            this.campaign = campaign;
            this.next = next;
        }
    }

    private static final class Wave {
        final long up;
        final long down;
        final long since;

        Wave(long up, long down, long since) {
            this.up = up;
            this.down = down;
            this.since = since;
        }

        /** Both products stay at or below 2^62, so nothing wraps. */
        boolean takes(long digest) {
            return digest * down < up << 32;
        }
    }

    private static final class Campaign {
        final int number;
        final int part;
        final int modulus;
        final int k;
        final int edition;
        final ArrayList<Wave> waves = new ArrayList<>();
        int state = NEW;
        /** The campaigns that are BEFORE this one without any in between, as bits. */
        long before;
        long ruleUp;
        /** 0 as long as there is no RULE. */
        long ruleDown;
        int reports;
        int badReports;

        Campaign(int number, int formula, int edition) {
            this.number = number;
            this.part = partOf(formula);
            this.modulus = 1 + Math.floorMod(formula / PARTS, MODULI);
            this.k = formula / (PARTS * MODULI);
            this.edition = edition;
        }

        static int partOf(int formula) {
            return Math.floorMod(formula, PARTS);
        }

        long bit() {
            return 1L << number;
        }

        boolean isMeantFor(Car car) {
            return modulus > 0
                    && car.number % modulus == k % modulus
                    && car.isOlder(part, edition);
        }

        long digestOf(Car car) {
            long x = 31 * car.number + number;
            x = (x ^ x >>> DIGEST_SHIFT) * DIGEST_FIRST_FACTOR;
            x = (x ^ x >>> DIGEST_SHIFT) * DIGEST_SECOND_FACTOR;
            x = x ^ x >>> DIGEST_SHIFT;
            return x >>> 32;
        }

        boolean hasGreaterShareThan(long up, long down) {
            if (waves.isEmpty()) {
                return false;
            }
            Wave latest = waves.get(waves.size() - 1);
            return up * latest.down < latest.up * down;
        }

        /**
         * Since when a wave holds that a car is IN, or NO_WAVE. The first such wave holds longest,
         * and every wave holds by now, for times never become less.
         */
        long inWaveSince(Car car) {
            long digest = digestOf(car);
            for (int i = 0; i < waves.size(); i++) {
                Wave wave = waves.get(i);
                if (wave.takes(digest)) {
                    return wave.since;
                }
            }
            return NO_WAVE;
        }

        boolean pauseIfRuleIsBroken() {
            boolean broken = ruleDown > 0 && badReports * ruleDown > ruleUp * reports;
            if (state != RUNNING || !broken) {
                return false;
            }
            state = PAUSED;
            return true;
        }
    }
}
