import java.util.Random;

/** Runs of 512 calls by a fixed random source: the class and the plain model must answer alike. */
public final class RandomRunsTest {
    private static final int RUNS = 600;
    private static final int CALLS = 512;
    private static final int[] STRANGE = {Integer.MIN_VALUE, -1000, -2, -1, 9, 20, 21, 61, 1000, Integer.MAX_VALUE};

    public static void main(String[] args) {
        Due due = new Due();
        for (int run = 0; run < RUNS; run++) {
            oneRun(due, run);
        }
        due.end();
    }

    private static void oneRun(Due due, int run) {
        Random random = new Random(run);
        StrikePlan x = new StrikePlan();
        PlainModel model = new PlainModel();
        boolean strong = run % 2 == 1;
        if (strong) {
            // Else most runs stay low.
            compare(due, run, x, model, 10, 1, 100 + random.nextInt(301));
        }
        for (int n = strong ? 1 : 0; n < CALLS; n++) {
            int call = CALLS_BY_LOT[random.nextInt(CALLS_BY_LOT.length)];
            compare(due, run, x, model, call, first(random, call), second(random, call));
        }
    }

    /** The calls by their places in the document's face, those that build more often than those that wipe. */
    private static final int[] CALLS_BY_LOT = {
        0, 0, 0, 0, 0, 0, 1, 1, 1, 1, 1, 1, 1, 1, 1, 1, 2, 3, 3, 3, 3, 4, 5, 5, 5, 5, 5, 5, 6, 6, 6, 6, 6, 6, 6, 6,
        7, 7, 7, 7, 7, 7, 7, 7, 8, 8, 8, 8, 9, 9, 10, 10, 11, 12, 13, 13, 14, 14, 14, 15, 16, 17, 18};

    private static int first(Random random, int call) {
        if (random.nextInt(25) == 0) {
            return STRANGE[random.nextInt(STRANGE.length)];
        }
        switch (call) {
            case 0: return random.nextInt(15);
            case 2: return random.nextInt(4) - random.nextInt(2);
            case 4: return random.nextInt(5);
            case 5: return 1 + random.nextInt(random.nextInt(8) == 0 ? 60 : 8);
            case 10: return random.nextInt(5);
            case 12: return 1 + random.nextInt(random.nextInt(4) == 0 ? 20 : 4);
            case 13: return 1 + random.nextInt(random.nextInt(4) == 0 ? 20 : 4);
            case 16: return random.nextInt();
            case 17: case 18: return random.nextInt(2);
            default: return random.nextInt(8);
        }
    }

    private static int second(Random random, int call) {
        if (random.nextInt(25) == 0) {
            return STRANGE[random.nextInt(STRANGE.length)];
        }
        switch (call) {
            case 1: return random.nextInt(11);
            case 2: return random.nextInt(1001);
            case 9: return random.nextInt(random.nextInt(3) == 0 ? 10 : 3);
            case 10: return random.nextInt(3) == 0 ? random.nextInt(402) : random.nextInt(4);
            case 14: return random.nextInt(3) == 0 ? 20 : random.nextInt(60) - 10;
            default: return random.nextInt(8);
        }
    }

    private static void compare(Due due, int run, StrikePlan x, PlainModel m, int call, int a, int b) {
        int got;
        int want;
        switch (call) {
            case 0: got = x.told(a); want = m.told(a); break;
            case 1: got = x.floor(a, b); want = m.floor(a, b); break;
            case 2: got = x.hundredths(a, b); want = m.hundredths(a, b); break;
            case 3: got = x.would(a, b); want = m.would(a, b); break;
            case 4: got = x.cycle(a); want = m.cycle(a); break;
            case 5: got = x.days(a); want = m.days(a); break;
            case 6: got = x.pour(); want = m.pour(); break;
            case 7: got = x.strike(a); want = m.strike(a); break;
            case 8: got = x.back(a); want = m.back(a); break;
            case 9: got = x.slow(a, b); want = m.slow(a, b); break;
            case 10: got = x.bound(a, b); want = m.bound(a, b); break;
            case 11: got = x.clear(); want = m.clear(); break;
            case 12: got = x.drift(a); want = m.drift(a); break;
            case 13: got = x.undo(a); want = m.undo(a); break;
            case 14: got = x.write(a, b); want = m.write(a, b); break;
            case 15: got = x.tear(); want = m.tear(); break;
            case 16: got = x.seed(a); want = m.seed(a); break;
            case 17: got = x.keep(a); want = m.keep(a); break;
            default: got = x.goBack(a); want = m.goBack(a); break;
        }
        due.is("run " + run + ", call " + call + " of (" + a + ", " + b + ")", got, want);
    }
}
