import java.util.Arrays;

/**
 * Floors of a tower, poured one above the other on props: what each floor bears,
 * how strong it is by its age, and which props may be struck.
 */
public final class StrikePlan {
    public static final int NONE = -1, UNKNOWN = -1000000001, OUTSIDE = -1000000002, NOT = -1000000003, FULL = -1000000004;

    private static final int MOST_FLOORS = 8;
    private static final int MOST_DAYS = 60;
    private static final int MOST_ROWS = 3;
    private static final int LONGEST_CYCLE = 28;
    private static final int SLOWEST = 9;
    private static final int MOST_TABLE = 2;
    private static final int RIPEST_ASKED = 999;
    private static final int MOST_TIMES = 20;
    private static final int MOST_ENTRIES = 20;
    private static final int IMAGES = 2;
    // Loads and forces may be below 0: answers are raised by this, so that none looks like NONE.
    private static final int RAISED = 1000;

    // The numbers of bound(), and their places in a tower's bounds.
    private static final int WEIGHT = 0, MOST = 1, TABLE = 2, RULE = 3, BOUNDS = 4;
    private static final int[] LEAST_BOUND = {1, 1, 0, 0};
    private static final int[] GREATEST_BOUND = {50, 400, 2, 2};

    private final Tower now = new Tower();
    // What would be: made once, since each question and each deed needs it.
    private final Tower trial = new Tower();
    private final Past past = new Past();
    private final Book book = new Book();
    private final Image[] images = new Image[IMAGES];
    private int drawSeed = 0;

    public StrikePlan() {
        for (int i = 0; i < IMAGES; i++) {
            images[i] = new Image();
        }
    }

    // ---- the tower

    public int told(int what) {
        switch (what) {
            case 0: return now.day;
            case 1: return now.count;
            case 2: return now.bounds[WEIGHT];
            case 3: return now.bounds[MOST];
            case 4: return now.bounds[TABLE];
            case 5: return now.bounds[RULE];
            case 6: return now.props;
            case 7: return now.weakSet();
            case 8: return now.isSafe() ? 1 : 0;
            case 9: return maySet();
            case 10: return now.has(0) ? now.forceUnder(0) : 0;
            case 11: return book.size;
            case 12: return book.firstWrong(now);
            case 13: return past.size;
            default: return OUTSIDE;
        }
    }

    public int floor(int i, int what) {
        if (!now.has(i)) {
            return UNKNOWN;
        }
        switch (what) {
            case 0: return now.ageOf(i);
            case 1: return now.slowness[i];
            case 2: return now.strengthOf(i);
            case 3: return now.load[i] + RAISED;
            case 4: return now.isPropped(i) ? 1 : 0;
            case 5: return now.forceUnder(i) + RAISED;
            case 6: return now.lowestOf(i);
            case 7: return now.highestOf(i);
            case 8: return now.isGrounded(i) ? 1 : 0;
            case 9: return earliestFor(i);
            case 10: return harmOf(i);
            default: return OUTSIDE;
        }
    }

    public int hundredths(int table, int r) {
        if (table < 0 || table > MOST_TABLE || r < 0 || r > RIPEST_ASKED) {
            return OUTSIDE;
        }
        return percentAt(table, r);
    }

    public int would(int i, int floor) {
        if (!now.has(i) || !now.has(floor) || !now.isPropped(i)) {
            return UNKNOWN;
        }
        tryStrike(i, 0);
        return trial.load[floor] + RAISED;
    }

    public int cycle(int m) {
        if (m < 1 || m > MOST_ROWS) {
            return OUTSIDE;
        }
        for (int c = 1; c <= LONGEST_CYCLE; c++) {
            if (cycleHolds(m, c)) {
                return c;
            }
        }
        return NONE;
    }

    // ---- deeds

    public int days(int n) {
        if (n < 1 || n > MOST_DAYS) {
            return OUTSIDE;
        }
        past.note(now);
        now.day += n;
        return now.day;
    }

    public int pour() {
        if (now.count >= MOST_FLOORS) {
            return FULL;
        }
        if (!tryPour()) {
            return NOT;
        }
        past.note(now);
        now.copyFrom(trial);
        return now.count - 1;
    }

    public int strike(int i) {
        if (!now.has(i)) {
            return UNKNOWN;
        }
        if (!tryStrike(i, 0)) {
            return NOT;
        }
        past.note(now);
        now.copyFrom(trial);
        return now.lowestOf(i);
    }

    public int back(int i) {
        if (!now.has(i)) {
            return UNKNOWN;
        }
        if (now.isPropped(i)) {
            return NOT;
        }
        past.note(now);
        now.putProps(i);
        return now.lowestOf(i);
    }

    public int slow(int i, int v) {
        if (!now.has(i)) {
            return UNKNOWN;
        }
        if (v < 0 || v > SLOWEST) {
            return OUTSIDE;
        }
        past.note(now);
        int was = now.slowness[i];
        now.slowness[i] = v;
        return was;
    }

    public int bound(int what, int v) {
        if (what < 0 || what >= BOUNDS || v < LEAST_BOUND[what] || v > GREATEST_BOUND[what]) {
            return OUTSIDE;
        }
        if (what == WEIGHT && now.count > 0) {
            return NOT;
        }
        past.note(now);
        int was = now.bounds[what];
        now.bounds[what] = v;
        return was;
    }

    public int clear() {
        past.note(now);
        int were = now.count;
        now.empty();
        return were;
    }

    public int drift(int n) {
        if (n < 1 || n > MOST_TIMES) {
            return OUTSIDE;
        }
        for (int time = 0; time < n; time++) {
            past.note(now);
            int deed = nextDraw() % 5;
            int i = nextDraw() % 8;
            int gone = nextDraw() % 10;
            if (deed < 2) {
                now.day += gone;
            } else if (deed == 2 && tryPour() || deed == 3 && tryStrike(i, 0)) {
                now.copyFrom(trial);
            } else if (deed == 4 && now.has(i)) {
                now.putProps(i);
            }
        }
        return now.count;
    }

    public int undo(int n) {
        if (n < 1 || n > MOST_TIMES) {
            return OUTSIDE;
        }
        if (n > past.size) {
            return NOT;
        }
        past.takeBack(n, now);
        return now.day;
    }

    // ---- the book

    public int write(int i, int v) {
        if (!now.has(i)) {
            return UNKNOWN;
        }
        if (book.size >= MOST_ENTRIES) {
            return FULL;
        }
        book.add(i, v);
        return book.size;
    }

    public int tear() {
        int had = book.size;
        book.size = 0;
        return had;
    }

    // ---- images

    public int seed(int v) {
        if (v < 0) {
            return OUTSIDE;
        }
        int was = drawSeed;
        drawSeed = v;
        return was;
    }

    public int keep(int i) {
        if (i < 0 || i >= IMAGES) {
            return UNKNOWN;
        }
        images[i].take(now, drawSeed);
        past.forget();
        return 1;
    }

    public int goBack(int i) {
        if (i < 0 || i >= IMAGES) {
            return UNKNOWN;
        }
        if (!images[i].taken) {
            return NOT;
        }
        now.copyFrom(images[i].tower);
        drawSeed = images[i].drawSeed;
        past.forget();
        return 1;
    }

    // ---- what would be

    /** Leaves in trial what would be; tells whether it may be. */
    private boolean tryPour() {
        if (now.count >= MOST_FLOORS) {
            return false;
        }
        trial.copyFrom(now);
        trial.addFloor();
        return trial.isSafe();
    }

    /** Leaves in trial what would be so many days later, if props stand there; tells whether it may be. */
    private boolean tryStrike(int i, int later) {
        if (!now.has(i) || !now.isPropped(i)) {
            return false;
        }
        trial.copyFrom(now);
        trial.day += later;
        trial.takeProps(i);
        return trial.isSafe();
    }

    private int maySet() {
        int may = 0;
        for (int i = 0; i < now.count; i++) {
            if (tryStrike(i, 0)) {
                may |= 1 << i;
            }
        }
        return may;
    }

    private int earliestFor(int i) {
        if (!now.isPropped(i)) {
            return NONE;
        }
        for (int later = 0; later <= MOST_DAYS; later++) {
            if (tryStrike(i, later)) {
                return later;
            }
        }
        return NONE;
    }

    private int harmOf(int i) {
        if (!now.isPropped(i)) {
            return NONE;
        }
        tryStrike(i, 0);
        return trial.greatestExcess() + RAISED;
    }

    private boolean cycleHolds(int m, int c) {
        trial.copyFrom(now);
        trial.empty();
        for (int n = 0; n < MOST_FLOORS; n++) {
            trial.day = n * c;
            // No row stands ahead of the first floor, so this leaves it out by itself.
            if (Integer.bitCount(trial.props) == m) {
                trial.takeProps(trial.lowestPropped());
                if (!trial.isSafe()) {
                    return false;
                }
            }
            trial.addFloor();
            if (!trial.isSafe()) {
                return false;
            }
        }
        return true;
    }

    // ---- days by draws

    private int nextDraw() {
        // The mask is the remainder by 2 to the 31, wrap-around or not.
        drawSeed = (drawSeed * 1103515245 + 12345) & 0x7fffffff;
        return drawSeed / 65536;
    }

    // ---- strength

    private static int percentAt(int table, int ripe) {
        // All tables begin with 0; a ripeness below it would endanger the divisor.
        if (ripe <= 0) {
            return 0;
        }
        switch (table) {
            case 0: return (int) (100L * ripe / (ripe + 4L));
            case 1: return ripe >= 10 ? 100 : 10 * ripe;
            default: break;
        }
        int percent = 20;
        int rest = ripe;
        // Four halvings reach 100, which more cannot pass.
        for (int halving = 0; halving < 4 && rest > 1; halving++) {
            rest /= 2;
            percent += 20;
        }
        return percent;
    }

    /** All that undoing and images bring back: the floors, their props and loads, the day, the bounds. */
    private static final class Tower {
        final int[] bounds = {20, 60, 0, 0};
        final int[] pouredOn = new int[MOST_FLOORS];
        final int[] slowness = new int[MOST_FLOORS];
        final int[] load = new int[MOST_FLOORS];
        // Filled and read within one sharing; kept here so that sharing makes nothing new.
        private final int[] part = new int[MOST_FLOORS];
        int day = 0;
        int count = 0;
        int props = 0;

        void copyFrom(Tower other) {
            for (int b = 0; b < BOUNDS; b++) {
                bounds[b] = other.bounds[b];
            }
            for (int k = 0; k < other.count; k++) {
                pouredOn[k] = other.pouredOn[k];
                slowness[k] = other.slowness[k];
                load[k] = other.load[k];
            }
            day = other.day;
            count = other.count;
            props = other.props;
        }

        void empty() {
            day = 0;
            count = 0;
            props = 0;
        }

        boolean has(int i) {
            return i >= 0 && i < count;
        }

        int ageOf(int i) {
            return day - pouredOn[i];
        }

        int strengthOf(int i) {
            int ripe = ageOf(i) * (10 - slowness[i]) / 10;
            return bounds[MOST] * percentAt(bounds[TABLE], ripe) / 100;
        }

        boolean isPropped(int i) {
            return (props >> i & 1) == 1;
        }

        int lowestPropped() {
            int i = 0;
            while (i < count && !isPropped(i)) {
                i++;
            }
            return i;
        }

        int lowestOf(int i) {
            int low = i;
            while (low > 0 && isPropped(low)) {
                low--;
            }
            return low;
        }

        int highestOf(int i) {
            int high = i;
            while (high + 1 < count && isPropped(high + 1)) {
                high++;
            }
            return high;
        }

        boolean isGrounded(int i) {
            return lowestOf(i) == 0 && isPropped(0);
        }

        int forceUnder(int i) {
            if (!isPropped(i)) {
                return 0;
            }
            int force = 0;
            int high = highestOf(i);
            for (int k = i; k <= high; k++) {
                force += bounds[WEIGHT] - load[k];
            }
            return force;
        }

        int weakSet() {
            int weak = 0;
            for (int k = 0; k < count; k++) {
                if (load[k] > strengthOf(k)) {
                    weak |= 1 << k;
                }
            }
            return weak;
        }

        boolean isSafe() {
            return weakSet() == 0;
        }

        int greatestExcess() {
            int greatest = load[0] - strengthOf(0);
            for (int k = 1; k < count; k++) {
                greatest = Math.max(greatest, load[k] - strengthOf(k));
            }
            return greatest;
        }

        void addFloor() {
            if (count >= MOST_FLOORS) {
                return;
            }
            int top = count;
            pouredOn[top] = day;
            slowness[top] = 0;
            load[top] = 0;
            count++;
            putProps(top);
            shareAmong(top, bounds[WEIGHT]);
        }

        void putProps(int i) {
            props |= 1 << i;
        }

        void takeProps(int i) {
            if (!has(i)) {
                return;
            }
            int force = forceUnder(i);
            props &= ~(1 << i);
            shareAmong(i, force);
            if (i > 0) {
                shareAmong(i - 1, -force);
            }
        }

        /** Shares q among the stack that floor i is in. */
        private void shareAmong(int i, int q) {
            int low = lowestOf(i);
            if (low == 0 && isPropped(0)) {
                // The ground has it.
                return;
            }
            int high = highestOf(i);
            int rule = bounds[RULE];
            long all = 0;
            for (int k = low; k <= high; k++) {
                int age = ageOf(k);
                part[k] = rule == 1 ? strengthOf(k) : rule == 2 ? age : Math.min(age, 1);
                all += part[k];
            }
            if (all <= 0) {
                Arrays.fill(part, 1);
                all = Math.max(1, high - low + 1);
            }
            int left = q;
            for (int k = low; k <= high; k++) {
                int got = (int) ((long) q * part[k] / all);
                load[k] += got;
                left -= got;
            }
            spreadByOnes(low, high, left);
        }

        /** One round is enough: each part has cut off less than one, so fewer are left than there are parts. */
        private void spreadByOnes(int low, int high, int q) {
            int one = q < 0 ? -1 : 1;
            int left = q;
            for (int k = low; k <= high && left != 0; k++) {
                if (part[k] > 0) {
                    load[k] += one;
                    left -= one;
                }
            }
        }
    }

    /** The towers ahead of the latest deeds, in a ring: the oldest gives way to the newest. */
    private static final class Past {
        private final Tower[] ring = new Tower[MOST_TIMES];
        private int next = 0;
        int size = 0;

        Past() {
            for (int k = 0; k < MOST_TIMES; k++) {
                ring[k] = new Tower();
            }
        }

        void note(Tower tower) {
            ring[next].copyFrom(tower);
            next = (next + 1) % MOST_TIMES;
            size = Math.min(size + 1, MOST_TIMES);
        }

        void takeBack(int n, Tower into) {
            if (n < 1 || n > size) {
                return;
            }
            next = (next + MOST_TIMES - n) % MOST_TIMES;
            size -= n;
            into.copyFrom(ring[next]);
        }

        void forget() {
            size = 0;
        }
    }

    /** Loads of floors as they were written down; neither undoing nor an image changes it. */
    private static final class Book {
        private final int[] floors = new int[MOST_ENTRIES];
        private final int[] loads = new int[MOST_ENTRIES];
        int size = 0;

        void add(int i, int v) {
            if (size >= MOST_ENTRIES) {
                return;
            }
            floors[size] = i;
            loads[size] = v;
            size++;
        }

        int firstWrong(Tower tower) {
            for (int k = 0; k < size; k++) {
                if (!tower.has(floors[k]) || tower.load[floors[k]] != loads[k]) {
                    return k;
                }
            }
            return NONE;
        }
    }

    /** A tower and the seed, kept to go on from. */
    private static final class Image {
        final Tower tower = new Tower();
        int drawSeed = 0;
        boolean taken = false;

        void take(Tower from, int seedThen) {
            tower.copyFrom(from);
            drawSeed = seedThen;
            taken = true;
        }
    }
}
