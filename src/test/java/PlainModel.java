import java.util.ArrayList;
import java.util.List;

/**
 * The document once more, as slowly and plainly as it is told, built otherwise than the class:
 * floors are objects, stacks are lists, sharing goes round by ones, and every past is a whole copy.
 */
final class PlainModel {
    static final int NONE = -1, UNKNOWN = -1000000001, OUTSIDE = -1000000002, NOT = -1000000003, FULL = -1000000004;

    static final class Slab {
        int age;
        int slow;
        int load;
        boolean props;

        Slab copy() {
            Slab other = new Slab();
            other.age = age;
            other.slow = slow;
            other.load = load;
            other.props = props;
            return other;
        }
    }

    static final class Site {
        int day = 0;
        int weight = 20;
        int most = 60;
        int table = 0;
        int rule = 0;
        List<Slab> slabs = new ArrayList<>();

        Site copy() {
            Site other = new Site();
            other.day = day;
            other.weight = weight;
            other.most = most;
            other.table = table;
            other.rule = rule;
            for (Slab slab : slabs) {
                other.slabs.add(slab.copy());
            }
            return other;
        }

        void pass(int days) {
            day += days;
            for (Slab slab : slabs) {
                slab.age += days;
            }
        }

        int strength(Slab slab) {
            return most * hundredthsAt(table, slab.age * (10 - slab.slow) / 10) / 100;
        }

        List<Slab> stackOf(Slab slab) {
            List<Slab> stack = new ArrayList<>();
            boolean in = false;
            for (Slab each : slabs) {
                if (!each.props || each == slabs.get(0)) {
                    if (in) {
                        break;
                    }
                    stack.clear();
                }
                stack.add(each);
                in |= each == slab;
            }
            return stack;
        }

        boolean grounded(List<Slab> stack) {
            return stack.contains(slabs.get(0)) && slabs.get(0).props;
        }

        int force(Slab slab) {
            if (!slab.props) {
                return 0;
            }
            List<Slab> stack = stackOf(slab);
            int force = 0;
            for (Slab each : stack.subList(stack.indexOf(slab), stack.size())) {
                force = force + weight - each.load;
            }
            return force;
        }

        int part(Slab slab) {
            if (rule == 0) {
                return slab.age > 0 ? 1 : 0;
            }
            return rule == 1 ? strength(slab) : slab.age;
        }

        void share(int q, List<Slab> stack) {
            if (grounded(stack)) {
                return;
            }
            List<Integer> parts = new ArrayList<>();
            long all = 0;
            for (Slab each : stack) {
                parts.add(part(each));
                all += part(each);
            }
            if (all == 0) {
                for (int k = 0; k < parts.size(); k++) {
                    parts.set(k, 1);
                    all++;
                }
            }
            int given = 0;
            for (int k = 0; k < parts.size(); k++) {
                int gets = (int) ((long) q * parts.get(k) / all);
                stack.get(k).load += gets;
                given += gets;
            }
            while (given != q) {
                for (int k = 0; k < parts.size() && given != q; k++) {
                    if (parts.get(k) > 0) {
                        stack.get(k).load += Integer.signum(q);
                        given += Integer.signum(q);
                    }
                }
            }
        }

        void pour() {
            Slab slab = new Slab();
            slab.props = true;
            slabs.add(slab);
            share(weight, stackOf(slab));
        }

        void strike(int i) {
            Slab slab = slabs.get(i);
            int bore = force(slab);
            slab.props = false;
            share(bore, stackOf(slab));
            if (i > 0) {
                share(-bore, stackOf(slabs.get(i - 1)));
            }
        }

        boolean safe() {
            for (Slab slab : slabs) {
                if (slab.load > strength(slab)) {
                    return false;
                }
            }
            return true;
        }

        Site struck(int i, int later) {
            Site other = copy();
            other.pass(later);
            other.strike(i);
            return other;
        }

        Site poured() {
            Site other = copy();
            other.pour();
            return other;
        }
    }

    private Site site = new Site();
    private long seed = 0;
    private final List<Site> past = new ArrayList<>();
    private final List<int[]> book = new ArrayList<>();
    private final Site[] images = new Site[2];
    private final long[] imageSeeds = new long[2];

    static int hundredthsAt(int table, int r) {
        if (table == 0) {
            return 100 * r / (r + 4);
        }
        if (table == 1) {
            return Math.min(100, 10 * r);
        }
        if (r == 0) {
            return 0;
        }
        int halvings = 0;
        for (int rest = r; rest != 1; rest = rest / 2) {
            halvings++;
        }
        return Math.min(100, 20 + 20 * halvings);
    }

    private boolean floorIs(int i) {
        return i >= 0 && i < site.slabs.size();
    }

    private void deed() {
        past.add(site.copy());
        if (past.size() > 20) {
            past.remove(0);
        }
    }

    int told(int what) {
        switch (what) {
            case 0: return site.day;
            case 1: return site.slabs.size();
            case 2: return site.weight;
            case 3: return site.most;
            case 4: return site.table;
            case 5: return site.rule;
            case 6: return propsSet();
            case 7: return weakSet();
            case 8: return site.safe() ? 1 : 0;
            case 9: return maySet();
            case 10: return site.slabs.isEmpty() ? 0 : site.force(site.slabs.get(0));
            case 11: return book.size();
            case 12: return wrong();
            case 13: return past.size();
            default: return OUTSIDE;
        }
    }

    private int propsSet() {
        int set = 0;
        for (int i = 0; i < site.slabs.size(); i++) {
            set += site.slabs.get(i).props ? 1 << i : 0;
        }
        return set;
    }

    private int weakSet() {
        int set = 0;
        for (int i = 0; i < site.slabs.size(); i++) {
            Slab slab = site.slabs.get(i);
            set += slab.load > site.strength(slab) ? 1 << i : 0;
        }
        return set;
    }

    private int maySet() {
        int set = 0;
        for (int i = 0; i < site.slabs.size(); i++) {
            set += site.slabs.get(i).props && site.struck(i, 0).safe() ? 1 << i : 0;
        }
        return set;
    }

    private int wrong() {
        for (int k = 0; k < book.size(); k++) {
            int i = book.get(k)[0];
            if (!floorIs(i) || site.slabs.get(i).load != book.get(k)[1]) {
                return k;
            }
        }
        return NONE;
    }

    int floor(int i, int what) {
        if (!floorIs(i)) {
            return UNKNOWN;
        }
        Slab slab = site.slabs.get(i);
        List<Slab> stack = site.stackOf(slab);
        switch (what) {
            case 0: return slab.age;
            case 1: return slab.slow;
            case 2: return site.strength(slab);
            case 3: return slab.load + 1000;
            case 4: return slab.props ? 1 : 0;
            case 5: return site.force(slab) + 1000;
            case 6: return site.slabs.indexOf(stack.get(0));
            case 7: return site.slabs.indexOf(stack.get(stack.size() - 1));
            case 8: return site.grounded(stack) ? 1 : 0;
            case 9: return slab.props ? earliest(i) : NONE;
            case 10: return slab.props ? harm(site.struck(i, 0)) : NONE;
            default: return OUTSIDE;
        }
    }

    private int earliest(int i) {
        for (int later = 0; later <= 60; later++) {
            if (site.struck(i, later).safe()) {
                return later;
            }
        }
        return NONE;
    }

    private static int harm(Site then) {
        int greatest = Integer.MIN_VALUE;
        for (Slab slab : then.slabs) {
            greatest = Math.max(greatest, slab.load - then.strength(slab));
        }
        return greatest + 1000;
    }

    int hundredths(int table, int r) {
        boolean fits = table >= 0 && table <= 2 && r >= 0 && r <= 999;
        return fits ? hundredthsAt(table, r) : OUTSIDE;
    }

    int would(int i, int floor) {
        if (!floorIs(i) || !floorIs(floor) || !site.slabs.get(i).props) {
            return UNKNOWN;
        }
        return site.struck(i, 0).slabs.get(floor).load + 1000;
    }

    int cycle(int m) {
        if (m < 1 || m > 3) {
            return OUTSIDE;
        }
        for (int c = 1; c <= 28; c++) {
            if (holds(m, c)) {
                return c;
            }
        }
        return NONE;
    }

    private boolean holds(int m, int c) {
        Site fresh = site.copy();
        fresh.slabs.clear();
        for (int n = 0; n < 8; n++) {
            if (n > 0) {
                fresh.pass(c);
                List<Integer> rows = new ArrayList<>();
                for (int i = 0; i < fresh.slabs.size(); i++) {
                    if (fresh.slabs.get(i).props) {
                        rows.add(i);
                    }
                }
                if (rows.size() == m) {
                    fresh.strike(rows.get(0));
                    if (!fresh.safe()) {
                        return false;
                    }
                }
            }
            fresh.pour();
            if (!fresh.safe()) {
                return false;
            }
        }
        return true;
    }

    int days(int n) {
        if (n < 1 || n > 60) {
            return OUTSIDE;
        }
        deed();
        site.pass(n);
        return site.day;
    }

    int pour() {
        if (site.slabs.size() == 8) {
            return FULL;
        }
        Site then = site.poured();
        if (!then.safe()) {
            return NOT;
        }
        deed();
        site = then;
        return site.slabs.size() - 1;
    }

    int strike(int i) {
        if (!floorIs(i)) {
            return UNKNOWN;
        }
        if (!site.slabs.get(i).props || !site.struck(i, 0).safe()) {
            return NOT;
        }
        deed();
        site = site.struck(i, 0);
        return floor(i, 6);
    }

    int back(int i) {
        if (!floorIs(i)) {
            return UNKNOWN;
        }
        if (site.slabs.get(i).props) {
            return NOT;
        }
        deed();
        site.slabs.get(i).props = true;
        return floor(i, 6);
    }

    int slow(int i, int v) {
        if (!floorIs(i)) {
            return UNKNOWN;
        }
        if (v < 0 || v > 9) {
            return OUTSIDE;
        }
        deed();
        int was = site.slabs.get(i).slow;
        site.slabs.get(i).slow = v;
        return was;
    }

    int bound(int what, int v) {
        boolean fits = what == 0 && v >= 1 && v <= 50 || what == 1 && v >= 1 && v <= 400
                || (what == 2 || what == 3) && v >= 0 && v <= 2;
        if (!fits) {
            return OUTSIDE;
        }
        if (what == 0 && !site.slabs.isEmpty()) {
            return NOT;
        }
        deed();
        int was = told(2 + what);
        if (what == 0) {
            site.weight = v;
        } else if (what == 1) {
            site.most = v;
        } else if (what == 2) {
            site.table = v;
        } else {
            site.rule = v;
        }
        return was;
    }

    int clear() {
        deed();
        int were = site.slabs.size();
        site.slabs.clear();
        site.day = 0;
        return were;
    }

    private int draw(int n) {
        seed = (seed * 1103515245L + 12345L) % (1L << 31);
        return (int) (seed / 65536 % n);
    }

    int drift(int n) {
        if (n < 1 || n > 20) {
            return OUTSIDE;
        }
        for (int time = 0; time < n; time++) {
            deed();
            int first = draw(5);
            int second = draw(8);
            int third = draw(10);
            if (first <= 1) {
                site.pass(third);
            } else if (first == 2 && site.slabs.size() < 8 && site.poured().safe()) {
                site = site.poured();
            } else if (first == 3 && floorIs(second) && site.slabs.get(second).props
                    && site.struck(second, 0).safe()) {
                site = site.struck(second, 0);
            } else if (first == 4 && floorIs(second)) {
                site.slabs.get(second).props = true;
            }
        }
        return site.slabs.size();
    }

    int undo(int n) {
        if (n < 1 || n > 20) {
            return OUTSIDE;
        }
        if (n > past.size()) {
            return NOT;
        }
        for (int k = 0; k < n; k++) {
            site = past.remove(past.size() - 1);
        }
        return site.day;
    }

    int write(int i, int v) {
        if (!floorIs(i)) {
            return UNKNOWN;
        }
        if (book.size() == 20) {
            return FULL;
        }
        book.add(new int[] {i, v});
        return book.size();
    }

    int tear() {
        int had = book.size();
        book.clear();
        return had;
    }

    int seed(int v) {
        if (v < 0) {
            return OUTSIDE;
        }
        int was = (int) seed;
        seed = v;
        return was;
    }

    int keep(int i) {
        if (i != 0 && i != 1) {
            return UNKNOWN;
        }
        images[i] = site.copy();
        imageSeeds[i] = seed;
        past.clear();
        return 1;
    }

    int goBack(int i) {
        if (i != 0 && i != 1) {
            return UNKNOWN;
        }
        if (images[i] == null) {
            return NOT;
        }
        site = images[i].copy();
        seed = imageSeeds[i];
        past.clear();
        return 1;
    }
}
