import java.util.ArrayList;
import java.util.List;

/**
 * Later calls that tell what a fleet of up to five cars and six campaigns holds. There are several
 * ways to ask, each for a fleet of its own, since what one asks for may hide what another one tells.
 */
final class Later {
    static final int WAYS = 5;

    private static final int CARS = 5;
    private static final int CAMPAIGNS = 6;
    private static final int WAVES = 3;

    private final FleetWaves fleet;
    private final long now;
    private final List<Long> answers = new ArrayList<>();

    private Later(FleetWaves fleet, long now) {
        this.fleet = fleet;
        this.now = now;
    }

    static List<Long> answers(int way, FleetWaves fleet, long now) {
        Later later = new Later(fleet, now);
        later.ask(way);
        later.look();
        return later.answers;
    }

    private void ask(int way) {
        switch (way) {
            case 0 -> retries();
            case 1 -> dues();
            case 2 -> newcomers();
            case 3 -> orders();
            default -> rules();
        }
    }

    private void told(long answer) {
        answers.add(answer);
    }

    private void look() {
        for (int car = 1; car <= CARS; car++) {
            told(fleet.failed(car));
        }
        for (int campaign = 1; campaign <= CAMPAIGNS; campaign++) {
            told(fleet.state(campaign));
            told(Check.share(fleet, campaign, 0));
            told(Check.share(fleet, campaign, 1));
            for (int wave = 1; wave <= WAVES; wave++) {
                told(fleet.in(campaign, wave));
            }
        }
    }

    private void dueForAll(long t) {
        for (int car = 1; car <= CARS; car++) {
            told(fleet.due(car, t));
        }
    }

    private void reportAll(boolean good) {
        for (int car = 1; car <= CARS; car++) {
            for (int campaign = 1; campaign <= CAMPAIGNS; campaign++) {
                told(fleet.report(car, campaign, good));
            }
        }
    }

    private void consentAll() {
        for (int car = 1; car <= CARS; car++) {
            told(fleet.consent(car, true));
        }
    }

    private void waveForAll(long up, long down) {
        for (int campaign = 1; campaign <= CAMPAIGNS; campaign++) {
            told(fleet.wave(campaign, up, down, now));
        }
    }

    /** What is begun by now, and when the failures were. */
    private void retries() {
        reportAll(false);
        consentAll();
        for (long t = now; t <= now + 100; t += 10) {
            dueForAll(t);
        }
    }

    private void dues() {
        dueForAll(now);
        reportAll(true);
        consentAll();
        dueForAll(now);
        reportAll(true);
    }

    private void newcomers() {
        look();
        for (int part = 0; part < 4; part++) {
            told(fleet.campaign(part, 1));
            told(fleet.campaign(part, 8));
        }
        for (long number = 0; number <= 6; number++) {
            told(fleet.car(number, 0));
        }
        waveForAll(0, 1);
        waveForAll(1, 3);
        waveForAll(1, 1);
        dueForAll(now);
    }

    private void orders() {
        waveForAll(1, 1);
        dueForAll(now);
        for (int campaign = 1; campaign <= CAMPAIGNS; campaign++) {
            for (int other = 1; other <= CAMPAIGNS; other++) {
                told(fleet.order(campaign, other));
            }
        }
        for (int campaign = 1; campaign <= CAMPAIGNS; campaign++) {
            told(fleet.stop(campaign));
            dueForAll(now);
        }
    }

    private void rules() {
        for (int round = 0; round < 3; round++) {
            waveForAll(1, 1);
            dueForAll(now);
            reportAll(false);
            look();
        }
        for (int campaign = 1; campaign <= CAMPAIGNS; campaign++) {
            told(fleet.rule(campaign, 0, 1));
        }
    }
}
