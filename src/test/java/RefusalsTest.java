/**
 * Promises 2 to 14, "REFUSALS change nothing": in long runs of calls, from fixed seeds, a second
 * object gets only the calls that change something, and answers them as the first one does.
 */
public final class RefusalsTest {
    private static final int RUNS = 600;
    private static final int CALLS = 512;

    public static void main(String[] args) {
        Check all = new Check();
        all.sentence("Promise 2", "REFUSALS change nothing");
        for (int run = 1; run <= RUNS; run++) {
            compare(all, run);
        }
        all.end();
    }

    private static void compare(Check all, int run) {
        FleetWaves all512 = new FleetWaves();
        FleetWaves changesOnly = new FleetWaves();
        RandomCalls calls = new RandomCalls(run);
        for (int made = 1; made <= CALLS; made++) {
            Call call = calls.next();
            long answer = call.on(all512);
            calls.answered(call, answer);
            if (call.changesNothing(answer)) {
                continue;
            }
            long without = call.on(changesOnly);
            if (answer != without) {
                all.that("run " + run + ", call " + made + ", " + call, answer, without);
                return;
            }
        }
    }
}
