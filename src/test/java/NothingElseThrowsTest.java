import java.util.Random;

/** Whatever the arguments and the state, only share throws, and only an ArithmeticException. */
public final class NothingElseThrowsTest {
    private static final int[] INTS = {
        Integer.MIN_VALUE, Integer.MIN_VALUE + 1, -8192, -8, -1, 0, 1, 2, 3, 7, 8, 20, 21, 40, 41,
        500, 501, 1000, 1001, 8388607, 8388608, Integer.MAX_VALUE,
    };
    private static final long[] LONGS = {
        Long.MIN_VALUE, Long.MIN_VALUE + 1, -1L, 0L, 1L, 2L, 3L, 100L, (1L << 30) - 1, 1L << 30,
        (1L << 30) + 1, 1L << 32, Long.MAX_VALUE - 1, Long.MAX_VALUE,
    };

    private final Random random;

    private NothingElseThrowsTest(int seed) {
        random = new Random(seed);
    }

    public static void main(String[] args) {
        Check check = new Check();
        for (int seed = 1; seed <= 400; seed++) {
            check.that("exceptions of run " + seed, new NothingElseThrowsTest(seed).exceptions(), 0);
        }
        check.end();
    }

    private int exceptions() {
        FleetWaves fleet = new FleetWaves();
        // Above the 512 calls of the document too: the answers are free then, an exception is not.
        for (int call = 0; call < 2000; call++) {
            int kind = random.nextInt(15);
            try {
                any(fleet, kind);
            } catch (RuntimeException e) {
                if (kind != 5 || e.getClass() != ArithmeticException.class) {
                    System.out.println("kind " + kind + ": " + e);
                    return 1;
                }
            }
        }
        return 0;
    }

    private int small() {
        return random.nextInt(4) == 0 ? INTS[random.nextInt(INTS.length)] : random.nextInt(6);
    }

    private long wide() {
        return random.nextInt(3) == 0 ? LONGS[random.nextInt(LONGS.length)] : random.nextInt(9);
    }

    private void any(FleetWaves fleet, int kind) {
        boolean flag = random.nextBoolean();
        switch (kind) {
            case 0 -> fleet.car(wide(), small());
            case 1 -> fleet.campaign(small(), small());
            case 2 -> fleet.wave(small(), wide(), wide(), wide());
            case 3 -> fleet.due(small(), wide());
            case 4 -> fleet.report(small(), small(), flag);
            case 5 -> fleet.share(small(), small());
            case 6 -> fleet.rule(small(), wide(), wide());
            case 7 -> fleet.state(small());
            case 8 -> fleet.stop(random.nextInt(5) == 0 ? small() : -1);
            case 9 -> fleet.consent(small(), flag);
            case 10 -> fleet.failed(small());
            case 11 -> fleet.in(small(), small());
            case 12 -> fleet.order(small(), small());
            case 13 -> fleet.wave(1 + random.nextInt(3), 1, 1, random.nextInt(40));
            default -> fleet.due(1 + random.nextInt(3), random.nextInt(40));
        }
    }
}
