/** Long runs of calls, from fixed seeds, on the class and on the model: every answer is the same. */
public final class ModelTest {
    private static final int RUNS = 600;
    private static final int CALLS = 512;

    public static void main(String[] args) {
        Check all = new Check();
        for (int run = 1; run <= RUNS; run++) {
            compare(all, run);
        }
        all.end();
    }

    private static void compare(Check all, int run) {
        FleetWaves fleet = new FleetWaves();
        Model model = new Model();
        RandomCalls calls = new RandomCalls(run);
        for (int made = 1; made <= CALLS; made++) {
            Call call = calls.next();
            long got = call.on(fleet);
            long due = call.on(model);
            calls.answered(call, due);
            if (got != due) {
                all.that("run " + run + ", call " + made + ", " + call, got, due);
                return;
            }
        }
    }
}
