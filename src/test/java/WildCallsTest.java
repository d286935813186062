import java.util.Random;

/** Runs of 512 calls with any arguments in any state: none may throw, and the same calls answer the same. */
public final class WildCallsTest {
    private static final int RUNS = 2000;
    private static final int CALLS = 512;
    private static final int[] EDGES = {Integer.MIN_VALUE, -1001, -1000, -2, -1, 23, 24, 25, 29, 30, 31, 32, 40, 41,
        59, 60, 61, 64, 399, 400, 600, 2000, 4000, 6000, 19999, 20000, Integer.MAX_VALUE};

    public static void main(String[] args) {
        for (int run = 0; run < RUNS; run++) {
            long once = oneRun(run);
            if (run % 10 == 0) {
                Desk.due("run " + run + " once more", oneRun(run), once);
            }
        }
        Desk.end();
    }

    /** Goes on until the desk has no calls more. */
    private static long oneRun(int seed) {
        Random random = new Random(seed);
        RandomText texts = new RandomText(random);
        Desk desk = new Desk();
        long answers = 0;
        try {
            for (int n = 0; n <= CALLS; n++) {
                if (random.nextInt(20) == 0) {
                    desk.type(texts.next());
                }
                answers = answers * 31 + call(desk, random);
            }
            Desk.due("all calls were made in run " + seed, false, true);
        } catch (Desk.OutOfCalls end) {
            return answers;
        }
        return answers;
    }

    private static int any(Random random) {
        return random.nextInt(4) == 0 ? EDGES[random.nextInt(EDGES.length)] : random.nextInt(10);
    }

    private static long bytes(Random random) {
        long bytes = 0;
        for (int k = 0; k < 8; k++) {
            boolean odd = random.nextInt(60) == 0;
            bytes = bytes << 8 | (odd ? random.nextInt(256) : "xyzu \n".charAt(random.nextInt(6)));
        }
        return bytes;
    }

    private static long call(Desk x, Random random) {
        int a = any(random);
        int b = any(random);
        switch (random.nextInt(24)) {
            case 0:
                return random.nextInt(5) == 0 ? x.type(random.nextLong(), a) : x.type(' ', 1);
            case 1:
                return x.build();
            case 2:
                return x.fault(a);
            case 3:
                return x.conflict(a);
            case 4:
                return x.first(a, b) ? 1 : 0;
            case 5:
                return x.follow(a, b) ? 1 : 0;
            case 6:
                return x.empty(a) ? 1 : 0;
            case 7:
                return x.cell(a, b);
            case 8:
                return x.many(a);
            case 9:
                return x.rule(a, b);
            case 10:
                return x.token(a, b);
            case 11:
                return x.count(a);
            case 12:
                return x.finish();
            case 13:
                return x.reset();
            case 14:
                return x.stream(a);
            case 15:
                return x.found(a, b);
            case 16:
                return x.noted(a, b);
            case 17:
                return x.expected(a) ? 1 : 0;
            default:
                return x.feed(bytes(random), a);
        }
    }
}
