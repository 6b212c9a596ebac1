import java.math.BigInteger;
import java.util.ArrayList;
import java.util.HashMap;
import java.util.HashSet;
import java.util.List;
import java.util.Map;
import java.util.Set;

/**
 * The document's words once more, as plainly as they can be put down and without a thought for
 * room or speed: sets and maps for what the class holds in fields, BigInteger for exact shares.
 */
final class Model {
    static final long THROWS = Long.MIN_VALUE;

    private static final BigInteger TWO_TO_64 = BigInteger.ONE.shiftLeft(64);

    private static final class Share {
        final BigInteger up;
        final BigInteger down;

        Share(long up, long down) {
            this.up = BigInteger.valueOf(up);
            this.down = BigInteger.valueOf(down);
        }

        boolean isLessThan(Share other) {
            return up.multiply(other.down).compareTo(other.up.multiply(down)) < 0;
        }
    }

    private static final class Wave {
        Share share;
        long from;
    }

    private static final class Car {
        long number;
        boolean consents = true;
        final Map<Integer, Integer> editions = new HashMap<>();
        final Set<Integer> begun = new HashSet<>();
        final Map<Integer, List<Long>> failures = new HashMap<>();
    }

    private static final class Campaign {
        int number;
        int formula;
        int edition;
        int state;
        Share rule;
        final List<Boolean> reports = new ArrayList<>();
        final List<Wave> waves = new ArrayList<>();

        int part() {
            return formula % 8;
        }
    }

    private final List<Car> cars = new ArrayList<>();
    private final List<Campaign> campaigns = new ArrayList<>();
    /** Pairs: the first was told to be before the second. */
    private final Set<List<Integer>> told = new HashSet<>();
    private long last = 0;

    private Car carOf(int n) {
        return n >= 1 && n <= cars.size() ? cars.get(n - 1) : null;
    }

    private Campaign campaignOf(int n) {
        return n >= 1 && n <= campaigns.size() ? campaigns.get(n - 1) : null;
    }

    private static boolean meant(Campaign c, Car car) {
        int m = 1 + c.formula / 8 % 1024;
        int k = c.formula / 8192;
        return car.number % m == k % m && car.editions.get(c.part()) < c.edition;
    }

    private boolean before(Campaign first, Campaign second) {
        return told.contains(List.of(first.number, second.number))
                || first.part() == second.part() && first.edition < second.edition;
    }

    private boolean beforeByAny(Campaign first, Campaign second, Set<Integer> seen) {
        if (before(first, second)) {
            return true;
        }
        for (Campaign between : campaigns) {
            if (before(first, between) && seen.add(between.number)
                    && beforeByAny(between, second, seen)) {
                return true;
            }
        }
        return false;
    }

    private static BigInteger mixed(BigInteger x) {
        return x.xor(x.shiftRight(33));
    }

    private static Share digest(Campaign c, Car car) {
        BigInteger x = BigInteger.valueOf(car.number).multiply(BigInteger.valueOf(31))
                .add(BigInteger.valueOf(c.number)).mod(TWO_TO_64);
        x = mixed(x).multiply(BigInteger.valueOf(-49064778989728563L)).mod(TWO_TO_64);
        x = mixed(x).multiply(BigInteger.valueOf(-4265267296055464877L)).mod(TWO_TO_64);
        return new Share(mixed(x).shiftRight(32).longValueExact(), 1L << 32);
    }

    private static boolean isIn(Wave wave, Campaign c, Car car) {
        return digest(c, car).isLessThan(wave.share);
    }

    private static boolean badShare(long up, long down) {
        return down < 1 || down > 1 << 30 || up < 0 || up > down;
    }

    private static boolean lookAtRule(Campaign c) {
        if (c.rule == null || c.state != 1 || c.reports.isEmpty()) {
            return false;
        }
        long bad = c.reports.stream().filter(good -> !good).count();
        if (c.rule.isLessThan(new Share(bad, c.reports.size()))) {
            c.state = 2;
            return true;
        }
        return false;
    }

    long car(long number, int edition) {
        if (number < 1 || edition < 0 || edition > 1000) {
            return -2;
        }
        if (cars.stream().anyMatch(c -> c.number == number)) {
            return -3;
        }
        if (cars.size() == 500) {
            return -4;
        }
        Car car = new Car();
        car.number = number;
        for (int part = 0; part < 8; part++) {
            car.editions.put(part, edition);
        }
        cars.add(car);
        return cars.size();
    }

    long campaign(int formula, int edition) {
        if (formula < 0 || formula > 8388607 || edition < 1 || edition > 1000) {
            return -2;
        }
        if (campaigns.size() == 40) {
            return -4;
        }
        if (campaigns.stream().anyMatch(c -> c.part() == formula % 8 && c.edition == edition)) {
            return 0;
        }
        Campaign c = new Campaign();
        c.formula = formula;
        c.edition = edition;
        campaigns.add(c);
        c.number = campaigns.size();
        return c.number;
    }

    long wave(int campaign, long up, long down, long t) {
        Campaign c = campaignOf(campaign);
        if (c == null) {
            return -1;
        }
        if (badShare(up, down) || t < 0 || t < last) {
            return -2;
        }
        Wave wave = new Wave();
        wave.share = new Share(up, down);
        wave.from = t;
        if (!c.waves.isEmpty() && wave.share.isLessThan(c.waves.get(c.waves.size() - 1).share)) {
            return -2;
        }
        if (c.state == 3) {
            return -3;
        }
        if (c.waves.size() == 20) {
            return -4;
        }
        last = t;
        c.waves.add(wave);
        c.state = 1;
        return c.waves.size();
    }

    private Long inSince(Campaign c, Car car, long t) {
        return c.waves.stream().filter(w -> w.from <= t && isIn(w, c, car)).map(w -> w.from)
                .min(Long::compare).orElse(null);
    }

    private boolean mayBegin(Campaign c, Car car, long t) {
        if (c.state != 1 || !meant(c, car) || !car.consents || inSince(c, car, t) == null) {
            return false;
        }
        List<Long> failures = car.failures.getOrDefault(c.number, List.of());
        if (failures.size() >= 2 || failures.size() == 1 && t - failures.get(0) < 100) {
            return false;
        }
        for (Campaign other : campaigns) {
            boolean waived = other.state == 3 && !car.begun.contains(other.number);
            if (before(other, c) && meant(other, car) && !waived) {
                return false;
            }
        }
        return true;
    }

    long due(int number, long t) {
        Car car = carOf(number);
        if (car == null) {
            return -1;
        }
        if (t < 0 || t < last) {
            return -2;
        }
        last = t;
        for (Campaign c : campaigns) {
            if (car.begun.contains(c.number) && meant(c, car)) {
                return c.number;
            }
        }
        Campaign best = null;
        for (Campaign c : campaigns) {
            if (mayBegin(c, car, t)
                    && (best == null || inSince(c, car, t) < inSince(best, car, t))) {
                best = c;
            }
        }
        if (best == null) {
            return 0;
        }
        car.begun.add(best.number);
        return best.number;
    }

    long report(int number, int campaign, boolean good) {
        Car car = carOf(number);
        Campaign c = campaignOf(campaign);
        if (car == null || c == null) {
            return -1;
        }
        if (!car.begun.remove(campaign)) {
            return -3;
        }
        c.reports.add(good);
        if (good) {
            car.editions.put(c.part(), c.edition);
        } else {
            car.failures.computeIfAbsent(campaign, n -> new ArrayList<>()).add(last);
        }
        lookAtRule(c);
        return 1;
    }

    long share(int campaign, int side) {
        Campaign c = campaignOf(campaign);
        if (c == null) {
            return -1;
        }
        if (c.reports.isEmpty()) {
            return THROWS;
        }
        BigInteger bad = BigInteger.valueOf(c.reports.stream().filter(good -> !good).count());
        BigInteger all = BigInteger.valueOf(c.reports.size());
        return (side == 0 ? bad : all).divide(bad.gcd(all)).longValueExact();
    }

    long rule(int campaign, long up, long down) {
        Campaign c = campaignOf(campaign);
        if (c == null) {
            return -1;
        }
        if (badShare(up, down)) {
            return -2;
        }
        c.rule = new Share(up, down);
        return lookAtRule(c) ? 1 : 0;
    }

    long state(int campaign) {
        Campaign c = campaignOf(campaign);
        return c == null ? -1 : c.state;
    }

    long stop(int campaign) {
        Campaign c = campaignOf(campaign);
        if (c == null) {
            return -1;
        }
        if (c.state == 3) {
            return -3;
        }
        c.state = 3;
        return cars.stream().filter(x -> meant(c, x) && !x.begun.contains(c.number)).count();
    }

    long consent(int number, boolean on) {
        Car car = carOf(number);
        if (car == null) {
            return -1;
        }
        if (car.consents == on) {
            return 0;
        }
        car.consents = on;
        return 1;
    }

    long failed(int number) {
        Car car = carOf(number);
        return car == null ? -1 : car.failures.values().stream().filter(f -> f.size() >= 2).count();
    }

    long in(int campaign, int wave) {
        Campaign c = campaignOf(campaign);
        if (c == null || wave < 1 || wave > c.waves.size()) {
            return -1;
        }
        return cars.stream().filter(x -> meant(c, x) && isIn(c.waves.get(wave - 1), c, x)).count();
    }

    long order(int campaign, int other) {
        Campaign later = campaignOf(campaign);
        Campaign earlier = campaignOf(other);
        if (later == null || earlier == null) {
            return -1;
        }
        if (campaign == other) {
            return -2;
        }
        if (beforeByAny(later, earlier, new HashSet<>())) {
            return 0;
        }
        told.add(List.of(other, campaign));
        return 1;
    }
}
