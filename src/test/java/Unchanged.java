import java.util.List;
import java.util.function.Supplier;
import java.util.function.ToLongFunction;

/**
 * Calls that have to change nothing: the same fleet is made twice, the call is made on one of the
 * two, and both have to answer all later calls alike.
 */
final class Unchanged {
    private final Check check;
    private final Supplier<FleetWaves> made;
    private final long now;

    /** A way to make a fleet, and the time that was told last to it. */
    Unchanged(Check check, Supplier<FleetWaves> made, long now) {
        this.check = check;
        this.made = made;
        this.now = now;
    }

    static Unchanged lively(Check check) {
        return new Unchanged(check, Unchanged::livelyFleet, 10);
    }

    Unchanged by(String call, ToLongFunction<FleetWaves> refused, long due) {
        for (int way = 0; way < Later.WAYS; way++) {
            FleetWaves fleet = made.get();
            check.that(call, refused.applyAsLong(fleet), due);
            List<Long> with = Later.answers(way, fleet, now);
            List<Long> without = Later.answers(way, made.get(), now);
            check.that(call + ", first later call with another answer, way " + way,
                    firstDifference(with, without), -1);
        }
        return this;
    }

    private static int firstDifference(List<Long> first, List<Long> second) {
        for (int i = 0; i < first.size(); i++) {
            if (!first.get(i).equals(second.get(i))) {
                return i;
            }
        }
        return -1;
    }

    /**
     * At the time 10: campaign 1 RUNNING, 2 NEW, 3 RUNNING, 4 PAUSED, 5 STOPPED; car 1 does not
     * consent, 2 FAILED at 4 (at 7), 3 FAILED at 1 (at 3), 4 has BEGUN 4.
     */
    static FleetWaves livelyFleet() {
        FleetWaves fleet = Check.fleet(3);
        fleet.car(4, 1);
        fleet.campaign(0, 1);
        fleet.campaign(0, 3);
        fleet.campaign(Check.formula(1, 2, 1), 2);
        fleet.campaign(2, 4);
        fleet.campaign(3, 9);
        fleet.order(4, 3);
        fleet.rule(1, 1, 2);
        fleet.rule(4, 0, 1);
        fleet.stop(5);
        fleet.wave(1, 1, 2, 1);
        fleet.due(2, 2);
        fleet.report(2, 1, true);
        fleet.due(3, 3);
        fleet.report(3, 1, false);
        fleet.wave(4, 1, 1, 5);
        fleet.due(4, 6);
        fleet.due(2, 7);
        fleet.report(2, 4, false);
        fleet.wave(3, 1, 4, 8);
        fleet.consent(1, false);
        fleet.due(1, 10);
        return fleet;
    }
}
