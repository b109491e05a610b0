/** Promises 7 to 15: the deeds, their refusals, days by draws, and undoing. */
public final class DeedsTest {
    private static final int UNKNOWN = StrikePlan.UNKNOWN;
    private static final int OUTSIDE = StrikePlan.OUTSIDE;
    private static final int NOT = StrikePlan.NOT;
    private static final int FULL = StrikePlan.FULL;
    private static final int[] NO_FLOORS = {-1, 2, 8, 32, 33, Integer.MIN_VALUE, Integer.MAX_VALUE};

    private static final Due DUE = new Due();

    public static void main(String[] args) {
        days();
        pour();
        pourRefused();
        strike();
        strikeRefused();
        back();
        slow();
        bound();
        boundRefused();
        clear();
        driftByDraws();
        driftByEachDeed();
        undo();
        undoKeepsTwenty();
        undoLeavesSeedAndBook();
        DUE.end();
    }

    private static void days() {
        StrikePlan x = new StrikePlan();
        DUE.is("days(1)", x.days(1), 1);
        DUE.is("days(60)", x.days(60), 61);
        int[] outside = {0, 61, -1, Integer.MIN_VALUE, Integer.MAX_VALUE};
        for (int n : outside) {
            DUE.is("days(" + n + ")", x.days(n), OUTSIDE);
        }
        DUE.is("DAY", x.told(0), 61);
        DUE.is("deeds", x.told(13), 2);
        x.pour();
        x.days(7);
        DUE.is("AGE", x.floor(0, 0), 7);
    }

    private static void pour() {
        StrikePlan x = Towers.lightPair(0);
        DUE.is("pour()", x.pour(), 2);
        DUE.is("two and the one left over", x.floor(0, 3), 1008);
        DUE.is("two", x.floor(1, 3), 1007);
        DUE.is("fresh concrete bears nothing", x.floor(2, 3), 1000);
        DUE.is("props under it", x.floor(2, 4), 1);
        DUE.is("force under 2", x.floor(2, 5), 1005);
        DUE.is("force under 1", x.floor(1, 5), 1003);
        DUE.is("not slow", x.floor(2, 1), 0);
    }

    private static void pourRefused() {
        StrikePlan x = new StrikePlan();
        for (int k = 0; k < 8; k++) {
            DUE.is("pour " + k, x.pour(), k);
        }
        String ahead = Due.stateOf(x);
        DUE.is("the ninth", x.pour(), FULL);
        DUE.same("FULL changes nothing", Due.stateOf(x), ahead);

        StrikePlan weak = new StrikePlan();
        weak.pour();
        weak.days(3);
        weak.strike(0);
        ahead = Due.stateOf(weak);
        // 40 on floor 0, which has the strength of 25.
        DUE.is("too weak for two", weak.pour(), NOT);
        DUE.same("NOT changes nothing", Due.stateOf(weak), ahead);
        weak.days(5);
        // 60 * 66 / 100 is 39.
        DUE.is("still too weak", weak.pour(), NOT);
        weak.days(1);
        // 60 * 69 / 100 is 41.
        DUE.is("strong enough", weak.pour(), 1);

        StrikePlan full = new StrikePlan();
        full.pour();
        full.days(60);
        full.strike(0);
        full.back(0);
        for (int k = 1; k < 8; k++) {
            full.pour();
        }
        full.bound(1, 1);
        DUE.is("full and too weak: it is not safe", full.told(8), 0);
        DUE.is("FULL is ahead of NOT", full.pour(), FULL);
    }

    private static void strike() {
        StrikePlan x = Towers.lightPair(0);
        x.pour();
        x.days(10);
        // The props under 1 bear what two floors weigh, less the 7 of floor 1: 3.
        DUE.is("strike(1)", x.strike(1), 1);
        // 3 among floors 1 and 2: 1 each, the one left over to the lower.
        DUE.is("from floor 0", x.floor(0, 3), 1005);
        DUE.is("to floor 1", x.floor(1, 3), 1009);
        DUE.is("to floor 2", x.floor(2, 3), 1001);
        DUE.is("props", x.told(6), 4);
        DUE.is("force under 2", x.floor(2, 5), 1004);
        // 4 up to floor 2; down from floor 1.
        DUE.is("strike(2)", x.strike(2), 2);
        DUE.is("floor 1", x.floor(1, 3), 1005);
        DUE.is("floor 2", x.floor(2, 3), 1005);
        strikeWithTheOtherSign();
    }

    /** Props may hang on the floor above: what goes up is below 0 then. */
    private static void strikeWithTheOtherSign() {
        StrikePlan x = new StrikePlan();
        x.bound(0, 7);
        x.bound(2, 1);
        x.pour();
        x.days(10);
        x.pour();
        x.days(10);
        x.slow(0, 9);
        x.slow(1, 0);
        x.bound(3, 1);
        // Strengths 12 and 60: 14 are shared as 2 and 11, and the one left over to the lowest.
        DUE.is("strike(0)", x.strike(0), 0);
        DUE.is("weak floor 0", x.floor(0, 3), 1003);
        DUE.is("strong floor 1", x.floor(1, 3), 1011);
        DUE.is("force under 1", x.floor(1, 5), 996);
        DUE.is("strike(1)", x.strike(1), 1);
        DUE.is("floor 0", x.floor(0, 3), 1007);
        DUE.is("floor 1", x.floor(1, 3), 1007);
    }

    private static void strikeRefused() {
        StrikePlan x = Towers.lightPair(0);
        String ahead = Due.stateOf(x);
        for (int i : NO_FLOORS) {
            DUE.is("strike(" + i + ")", x.strike(i), UNKNOWN);
        }
        DUE.is("no props", x.strike(0), NOT);
        DUE.same("nothing changed", Due.stateOf(x), ahead);
        x.pour();
        ahead = Due.stateOf(x);
        DUE.is("too fresh", x.strike(2), NOT);
        DUE.same("nothing changed by NOT", Due.stateOf(x), ahead);
        // Props elsewhere could go, were no floor too weak already.
        x.bound(1, 6);
        DUE.is("weak elsewhere", x.strike(1), NOT);
    }

    private static void back() {
        StrikePlan x = Towers.lightPair(0);
        for (int i : NO_FLOORS) {
            DUE.is("back(" + i + ")", x.back(i), UNKNOWN);
        }
        DUE.is("props stand", x.back(1), NOT);
        DUE.is("strike(1)", x.strike(1), 1);
        int deeds = x.told(13);
        DUE.is("back(1)", x.back(1), 0);
        DUE.is("without a load", x.floor(1, 5), 1000);
        DUE.is("floor 1 bears the same", x.floor(1, 3), 1005);
        DUE.is("one deed", x.told(13), deeds + 1);
        DUE.is("back(0)", x.back(0), 0);
        DUE.is("grounded", x.floor(1, 8), 1);
        DUE.is("the ground bears nothing yet", x.told(10), 0);
        DUE.is("pour()", x.pour(), 2);
        DUE.is("the ground bears it", x.told(10), 5);
        DUE.is("floor 0 does not", x.floor(0, 3), 1005);
        DUE.is("back(2)", x.back(2), NOT);
        x.strike(0);
        x.strike(1);
        x.back(0);
        DUE.is("back above a gap", x.back(1), 0);
        backInAnUnsafeTower();
    }

    private static void backInAnUnsafeTower() {
        StrikePlan x = Towers.lightPair(0);
        x.bound(1, 1);
        DUE.is("not safe", x.told(8), 0);
        DUE.is("put back all the same", x.back(0), 0);
    }

    private static void slow() {
        StrikePlan x = Towers.lightPair(0);
        DUE.is("slow(1, 9)", x.slow(1, 9), 0);
        DUE.is("slow(1, 3)", x.slow(1, 3), 9);
        // 10 days, 7 tenths of them.
        DUE.is("STRENGTH", x.floor(1, 2), 42);
        DUE.is("slow(1, 0)", x.slow(1, 0), 3);
        DUE.is("slow(0, 1)", x.slow(0, 1), 0);
        DUE.is("of its own", x.floor(1, 1), 0);
        int[] outside = {-1, 10, Integer.MIN_VALUE, Integer.MAX_VALUE};
        for (int v : outside) {
            DUE.is("slow(0, " + v + ")", x.slow(0, v), OUTSIDE);
        }
        for (int i : NO_FLOORS) {
            DUE.is("slow(" + i + ", 1)", x.slow(i, 1), UNKNOWN);
            DUE.is("slow(" + i + ", 10): UNKNOWN is first", x.slow(i, 10), UNKNOWN);
        }
        DUE.is("SLOW", x.floor(0, 1), 1);
        // 20 days less 2 are ripe 18; cut, 9 tenths of 1 day are 0.
        x.pour();
        x.slow(2, 1);
        x.days(1);
        DUE.is("cut to 0", x.floor(2, 2), 0);
    }

    private static void bound() {
        StrikePlan x = new StrikePlan();
        DUE.is("WEIGHT", x.bound(0, 50), 20);
        DUE.is("WEIGHT again", x.bound(0, 1), 50);
        DUE.is("MOST", x.bound(1, 400), 60);
        DUE.is("MOST again", x.bound(1, 1), 400);
        DUE.is("TABLE", x.bound(2, 2), 0);
        DUE.is("TABLE again", x.bound(2, 0), 2);
        DUE.is("RULE", x.bound(3, 2), 0);
        DUE.is("RULE again", x.bound(3, 0), 2);
        DUE.is("the same once more", x.bound(3, 0), 0);
        DUE.is("each is a deed", x.told(13), 9);
        int[] want = {1, 1, 0, 0};
        for (int what = 0; what < 4; what++) {
            DUE.is("told(" + (what + 2) + ")", x.told(what + 2), want[what]);
        }
        x.pour();
        DUE.is("MOST while there are floors", x.bound(1, 77), 1);
        DUE.is("TABLE while there are floors", x.bound(2, 1), 0);
        DUE.is("RULE while there are floors", x.bound(3, 1), 0);
    }

    private static void boundRefused() {
        StrikePlan x = new StrikePlan();
        int[][] outside = {{-1, 1}, {4, 1}, {0, 0}, {0, 51}, {1, 0}, {1, 401}, {2, -1}, {2, 3}, {3, -1}, {3, 3},
            {Integer.MIN_VALUE, 1}, {Integer.MAX_VALUE, 1}, {0, Integer.MIN_VALUE}, {1, Integer.MAX_VALUE}};
        for (int[] pair : outside) {
            DUE.is("bound(" + pair[0] + ", " + pair[1] + ")", x.bound(pair[0], pair[1]), OUTSIDE);
        }
        DUE.is("no deeds", x.told(13), 0);
        x.pour();
        DUE.is("WEIGHT while there are floors", x.bound(0, 30), NOT);
        DUE.is("the same WEIGHT", x.bound(0, 20), NOT);
        DUE.is("OUTSIDE is ahead of NOT", x.bound(0, 51), OUTSIDE);
        x.clear();
        DUE.is("without floors", x.bound(0, 30), 20);
    }

    private static void clear() {
        StrikePlan x = Towers.lightPair(2);
        x.slow(0, 4);
        DUE.is("clear()", x.clear(), 2);
        int[] want = {0, 0, 5, 60, 1, 2, 0, 0, 1, 0, 0};
        for (int what = 0; what < want.length; what++) {
            DUE.is("cleared: told(" + what + ")", x.told(what), want[what]);
        }
        int deeds = x.told(13);
        DUE.is("clear() of nothing", x.clear(), 0);
        DUE.is("is a deed", x.told(13), deeds + 1);
        x.pour();
        DUE.is("new floors are not slow", x.floor(0, 1), 0);
        DUE.is("nor old", x.floor(0, 0), 0);
        DUE.is("undo(3)", x.undo(3), 20);
        DUE.is("the floors are there again", x.told(1), 2);
        DUE.is("slow as it was", x.floor(0, 1), 4);
    }

    private static void driftByDraws() {
        StrikePlan x = new StrikePlan();
        // Seed 0: the first three are 12345, 1406932606 and 654583775.
        DUE.is("drift(1)", x.drift(1), 0);
        DUE.is("three draws", x.seed(0), 654583775);
        // 0 of 5, 21468 % 8 = 4, 9988 % 10 = 8.
        DUE.is("8 days", x.told(0), 8);
        int[] outside = {0, 21, -1, Integer.MIN_VALUE, Integer.MAX_VALUE};
        for (int n : outside) {
            DUE.is("drift(" + n + ")", x.drift(n), OUTSIDE);
        }
        DUE.is("no draws by that", x.seed(397), 0);
        DUE.is("one deed", x.told(13), 1);
        x.clear();
        DUE.is("seed 397: drift(20)", x.drift(20), 5);
        DUE.is("seed 397: DAY", x.told(0), 60);
        DUE.is("seed 397: props", x.told(6), 29);
        DUE.is("drift(20)", x.drift(20), 7);
        DUE.is("drift(20)", x.drift(20), 8);
        DUE.is("DAY", x.told(0), 114);
    }

    private static void driftByEachDeed() {
        StrikePlan x = Towers.lightPair(0);
        x.keep(0);
        driftOnce(x, 0, 1, 9);
        DUE.is("0: days", x.told(0), 29);
        driftOnce(x, 1, 1, 3);
        DUE.is("1: days", x.told(0), 23);
        driftOnce(x, 1, 0, 0);
        DUE.is("1: no days", x.told(0), 20);
        DUE.is("a deed all the same", x.told(13), 1);
        driftOnce(x, 2, 7, 5);
        DUE.is("2: poured", x.told(1), 3);
        DUE.is("2: its weight is shared", x.floor(0, 3), 1008);
        driftOnce(x, 3, 1, 5);
        DUE.is("3: struck", x.told(6), 0);
        driftOnce(x, 3, 0, 5);
        DUE.is("3: no props there", x.told(6), 2);
        driftOnce(x, 3, 2, 5);
        DUE.is("3: no floor there", x.told(6), 2);
        driftOnce(x, 4, 0, 5);
        DUE.is("4: put back", x.told(6), 3);
        driftOnce(x, 4, 1, 5);
        DUE.is("4: props stand", x.told(6), 2);
        driftOnce(x, 4, 2, 5);
        DUE.is("4: no floor there", x.told(6), 2);
        DUE.is("4: a deed all the same", x.told(13), 1);
        x.pour();
        x.keep(0);
        driftOnce(x, 3, 2, 5);
        DUE.is("3: too fresh", x.told(6), 6);
        x.bound(1, 8);
        x.keep(0);
        driftOnce(x, 2, 2, 5);
        DUE.is("2: too weak for one more", x.told(1), 3);
    }

    /** From image 0, one time with these draws. */
    private static void driftOnce(StrikePlan x, int deed, int i, int gone) {
        x.goBack(0);
        int answer = Towers.driftOnce(x, deed, i, gone);
        DUE.is("drift(1) answers the floors", answer, x.told(1));
    }

    private static void undo() {
        StrikePlan x = new StrikePlan();
        String[] states = new String[9];
        states[0] = Due.towerOf(x);
        x.bound(1, 200);
        states[1] = Due.towerOf(x);
        x.pour();
        states[2] = Due.towerOf(x);
        x.days(10);
        states[3] = Due.towerOf(x);
        x.slow(0, 2);
        states[4] = Due.towerOf(x);
        x.strike(0);
        states[5] = Due.towerOf(x);
        x.back(0);
        states[6] = Due.towerOf(x);
        x.clear();
        states[7] = Due.towerOf(x);
        DUE.is("seven deeds", x.told(13), 7);
        DUE.is("not eight", x.undo(8), NOT);
        DUE.is("undo(1)", x.undo(1), 10);
        DUE.same("clear() undone", Due.towerOf(x), states[6]);
        DUE.is("undo(2)", x.undo(2), 10);
        DUE.same("back(), strike() undone", Due.towerOf(x), states[4]);
        DUE.is("four left", x.told(13), 4);
        DUE.is("not five", x.undo(5), NOT);
        x.days(3);
        DUE.is("undo(3)", x.undo(3), 0);
        DUE.same("days(), slow(), days() undone", Due.towerOf(x), states[2]);
        DUE.is("undo(2)", x.undo(2), 0);
        DUE.same("all undone", Due.towerOf(x), states[0]);
        int[] outside = {0, 21, -1, Integer.MIN_VALUE, Integer.MAX_VALUE};
        for (int n : outside) {
            DUE.is("undo(" + n + ")", x.undo(n), OUTSIDE);
        }
        DUE.is("nothing left", x.undo(1), NOT);
    }

    private static void undoKeepsTwenty() {
        StrikePlan x = new StrikePlan();
        for (int k = 1; k <= 47; k++) {
            x.days(1);
            DUE.is("at most 20", x.told(13), Math.min(k, 20));
        }
        DUE.is("undo(20)", x.undo(20), 27);
        DUE.is("no more", x.undo(1), NOT);
        x.days(5);
        x.days(5);
        DUE.is("undo(1) in the ring", x.undo(1), 32);
        DUE.is("not two", x.undo(2), NOT);
        DUE.is("undo(1) again", x.undo(1), 27);
    }

    private static void undoLeavesSeedAndBook() {
        StrikePlan x = new StrikePlan();
        x.pour();
        x.seed(99);
        x.write(0, 0);
        DUE.is("neither is a deed", x.told(13), 1);
        x.drift(1);
        int after = x.seed(5);
        DUE.holds("drawn on", after != 99);
        x.undo(2);
        DUE.is("THE SEED stays", x.seed(0), 5);
        DUE.is("THE BOOK stays", x.told(11), 1);
        DUE.is("its floor is no more", x.told(12), 0);
    }
}
