/** Towers that several tests begin with, and draws that are wanted. */
final class Towers {
    private Towers() {
    }

    static StrikePlan of(int weight, int most, int table, int rule) {
        StrikePlan x = new StrikePlan();
        x.bound(0, weight);
        x.bound(1, most);
        x.bound(2, table);
        x.bound(3, rule);
        return x;
    }

    /** Two floors of weight 5, 20 and 10 days old, that hang together and bear 5 each by rule 0. */
    static StrikePlan lightPair(int rule) {
        StrikePlan x = new StrikePlan();
        x.bound(0, 5);
        x.bound(2, 1);
        x.bound(3, rule);
        x.pour();
        x.days(10);
        x.pour();
        x.days(10);
        x.strike(0);
        return x;
    }

    /** Eight floors of weight 5, as strong as can be (400), 80 to 10 days old, all on props. */
    static StrikePlan eight() {
        StrikePlan x = of(5, 400, 1, 0);
        for (int k = 0; k < 8; k++) {
            x.pour();
            x.days(10);
        }
        return x;
    }

    /**
     * Two floors of weight 5, 120 and 10 days old; by age the older bears all: 10 and 0. Rule 2.
     */
    static StrikePlan oneBearsAll() {
        StrikePlan x = of(5, 60, 1, 2);
        x.pour();
        x.days(60);
        x.days(50);
        x.pour();
        x.days(10);
        x.strike(0);
        return x;
    }

    /** One time by draws, and these are drawn. */
    static int driftOnce(StrikePlan x, int deed, int i, int gone) {
        x.seed(seedFor(deed, i, gone));
        return x.drift(1);
    }

    /** A seed whose next three draws are these, found by trying. */
    static int seedFor(int deed, int i, int gone) {
        for (int seed = 0;; seed++) {
            long first = nextSeed(seed);
            long second = nextSeed(first);
            long third = nextSeed(second);
            if (first / 65536 % 5 == deed && second / 65536 % 8 == i && third / 65536 % 10 == gone) {
                return seed;
            }
        }
    }

    static long nextSeed(long seed) {
        return (seed * 1103515245L + 12345L) % 2147483648L;
    }
}
