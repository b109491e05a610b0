/** Promises 1 to 6: a new object and what can be asked of the tower. The numbers are worked out by hand. */
public final class TowerTest {
    private static final int NONE = StrikePlan.NONE;
    private static final int UNKNOWN = StrikePlan.UNKNOWN;
    private static final int OUTSIDE = StrikePlan.OUTSIDE;

    private static final Due DUE = new Due();

    public static void main(String[] args) {
        newObject();
        toldOfTheTower();
        toldOutside();
        floorOfAStack();
        floorRefused();
        earliestAndHarm();
        harmOfTheWeakest();
        earliestAtItsEdges();
        tables();
        wouldShareByRules();
        wouldShareAlike();
        leftOverGoesToParts();
        wouldLeaveTheGroundedStack();
        wouldRefused();
        leastCycle();
        cyclesByDeeds();
        askingChangesNothing();
        DUE.end();
    }

    private static void newObject() {
        StrikePlan x = new StrikePlan();
        int[] want = {0, 0, 20, 60, 0, 0, 0, 0, 1, 0, 0, 0, NONE, 0};
        for (int what = 0; what < want.length; what++) {
            DUE.is("new: told(" + what + ")", x.told(what), want[what]);
        }
        DUE.is("new: floor(0, 0)", x.floor(0, 0), UNKNOWN);
        DUE.is("new: seed(1)", x.seed(1), 0);
        DUE.is("new: goBack(0)", x.goBack(0), StrikePlan.NOT);
        DUE.is("new: goBack(1)", x.goBack(1), StrikePlan.NOT);
    }

    private static void toldOfTheTower() {
        StrikePlan x = Towers.lightPair(0);
        int[] pair = {20, 2, 5, 60, 1, 0, 2, 0, 1, 2, 0, 0, NONE, 8};
        for (int what = 0; what < pair.length; what++) {
            DUE.is("pair: told(" + what + ")", x.told(what), pair[what]);
        }
        x.back(0);
        x.pour();
        // Nothing is shared among a grounded stack: the ground bears the new floor.
        int[] grounded = {20, 3, 5, 60, 1, 0, 7, 0, 1, 3, 5, 0, NONE, 10};
        for (int what = 0; what < grounded.length; what++) {
            DUE.is("grounded: told(" + what + ")", x.told(what), grounded[what]);
        }
        groundBears();
        x.bound(1, 4);
        DUE.is("too weak: told(7)", x.told(7), 3);
        DUE.is("too weak: told(8)", x.told(8), 0);
        DUE.is("too weak: told(9)", x.told(9), 0);
    }

    private static void groundBears() {
        StrikePlan x = new StrikePlan();
        x.pour();
        DUE.is("one floor: told(10)", x.told(10), 20);
        x.days(10);
        x.pour();
        DUE.is("two floors: told(10)", x.told(10), 40);
        x.days(10);
        x.strike(1);
        DUE.is("struck between them: told(10)", x.told(10), 20);
        x.strike(0);
        DUE.is("no props on the ground: told(10)", x.told(10), 0);
    }

    private static void toldOutside() {
        StrikePlan x = new StrikePlan();
        int[] strange = {-1, 14, Integer.MIN_VALUE, Integer.MAX_VALUE, StrikePlan.OUTSIDE};
        for (int what : strange) {
            DUE.is("told(" + what + ")", x.told(what), OUTSIDE);
        }
    }

    private static void floorOfAStack() {
        StrikePlan x = Towers.lightPair(0);
        x.slow(1, 5);
        x.pour();
        // 5 among two old floors: 2 each, the one left over to the lowest.
        // Struck under 1, loads would be 5, 10, 0 on strengths 60, 30, 0; under 2: 5, 5, 5.
        int[][] want = {
            {20, 0, 60, 1008, 0, 1000, 0, 2, 0, NONE, NONE},
            {10, 5, 30, 1007, 1, 1003, 0, 2, 0, 0, 1000},
            {0, 0, 0, 1000, 1, 1005, 0, 2, 0, 1, 1005},
        };
        for (int i = 0; i < want.length; i++) {
            for (int what = 0; what < want[i].length; what++) {
                DUE.is("floor(" + i + ", " + what + ")", x.floor(i, what), want[i][what]);
            }
        }
        DUE.is("strike(1)", x.strike(1), 1);
        DUE.is("below: lowest", x.floor(0, 6), 0);
        DUE.is("below: highest", x.floor(0, 7), 0);
        DUE.is("above: lowest", x.floor(2, 6), 1);
        DUE.is("above: highest", x.floor(1, 7), 2);
        DUE.is("back(0)", x.back(0), 0);
        DUE.is("below is grounded", x.floor(0, 8), 1);
        DUE.is("above is not", x.floor(1, 8), 0);
        DUE.is("back(1)", x.back(1), 0);
        DUE.is("all grounded", x.floor(2, 8), 1);
    }

    private static void floorRefused() {
        StrikePlan x = Towers.lightPair(0);
        int[] strange = {-1, 2, 8, 31, 32, Integer.MIN_VALUE, Integer.MAX_VALUE};
        for (int i : strange) {
            DUE.is("floor(" + i + ", 0)", x.floor(i, 0), UNKNOWN);
            DUE.is("floor(" + i + ", 99): UNKNOWN is first", x.floor(i, 99), UNKNOWN);
        }
        int[] outside = {-1, 11, Integer.MIN_VALUE, Integer.MAX_VALUE};
        for (int what : outside) {
            DUE.is("floor(0, " + what + ")", x.floor(0, what), OUTSIDE);
        }
    }

    private static void earliestAndHarm() {
        StrikePlan x = new StrikePlan();
        x.pour();
        // Table 0: 19 after 2 days, 25 after 3.
        DUE.is("earliest", x.floor(0, 9), 3);
        DUE.is("harm on day 0", x.floor(0, 10), 1020);
        x.days(2);
        DUE.is("earliest after 2", x.floor(0, 9), 1);
        DUE.is("harm after 2", x.floor(0, 10), 1001);
        x.days(1);
        DUE.is("earliest after 3", x.floor(0, 9), 0);
        DUE.is("harm after 3", x.floor(0, 10), 995);
        x.strike(0);
        DUE.is("earliest without props", x.floor(0, 9), NONE);
        DUE.is("harm without props", x.floor(0, 10), NONE);
    }

    private static void harmOfTheWeakest() {
        StrikePlan x = new StrikePlan();
        x.bound(2, 1);
        for (int k = 0; k < 3; k++) {
            x.pour();
            x.days(10);
        }
        x.slow(1, 9);
        // Struck under 0: 20 each, on strengths 60, 12 and 60.
        DUE.is("floor 1 is harmed", x.floor(0, 10), 1008);
        x.slow(1, 0);
        x.slow(2, 9);
        // Ripe 1 of 10: strength 6.
        DUE.is("floor 2 is harmed", x.floor(0, 10), 1014);
    }

    private static void earliestAtItsEdges() {
        StrikePlan x = new StrikePlan();
        x.bound(0, 50);
        x.bound(1, 84);
        x.bound(2, 1);
        x.pour();
        x.slow(0, 9);
        // 84 * 60 / 100 is 50, but 84 * 50 / 100 is 42: ripe 6 is needed, after 60 days.
        DUE.is("after 60 days", x.floor(0, 9), 60);
        x.bound(1, 83);
        DUE.is("after 70 days: NONE", x.floor(0, 9), NONE);
        x.days(9);
        DUE.is("after 61 days: NONE", x.floor(0, 9), NONE);
        x.days(1);
        DUE.is("after 60 days again", x.floor(0, 9), 60);
        x.bound(1, 49);
        x.slow(0, 0);
        DUE.is("never", x.floor(0, 9), NONE);
        x.bound(1, 50);
        // A load that is just the strength is borne.
        DUE.is("just as strong", x.floor(0, 9), 0);
        DUE.is("no harm: 0", x.floor(0, 10), 1000);
        DUE.is("may", x.told(9), 1);
        DUE.is("strike(0)", x.strike(0), 0);
        DUE.is("not weak", x.told(7), 0);
    }

    private static void tables() {
        StrikePlan x = new StrikePlan();
        int[] r = {0, 1, 2, 3, 4, 7, 8, 9, 10, 11, 15, 16, 31, 32, 396, 999};
        int[][] want = {
            {0, 20, 33, 42, 50, 63, 66, 69, 71, 73, 78, 80, 88, 88, 99, 99},
            {0, 10, 20, 30, 40, 70, 80, 90, 100, 100, 100, 100, 100, 100, 100, 100},
            {0, 20, 40, 40, 60, 60, 80, 80, 80, 80, 80, 100, 100, 100, 100, 100},
        };
        for (int table = 0; table < want.length; table++) {
            for (int k = 0; k < r.length; k++) {
                DUE.is("hundredths(" + table + ", " + r[k] + ")", x.hundredths(table, r[k]), want[table][k]);
            }
        }
        int[][] outside = {{-1, 5}, {3, 5}, {0, -1}, {0, 1000}, {2, -4}, {0, -4}, {1, Integer.MAX_VALUE},
            {Integer.MIN_VALUE, 1}, {2, Integer.MIN_VALUE}};
        for (int[] pair : outside) {
            DUE.is("hundredths(" + pair[0] + ", " + pair[1] + ")", x.hundredths(pair[0], pair[1]), OUTSIDE);
        }
    }

    private static void wouldShareByRules() {
        // Ages 20 and 10; by rule 1 the strengths are 60 and, slow, 30: 10 was shared as 7 and 3.
        StrikePlan byAge = Towers.lightPair(2);
        byAge.pour();
        DUE.is("by age: 7 and 4", byAge.floor(0, 3), 1011);
        DUE.is("by age: 3 and 1", byAge.floor(1, 3), 1004);
        // Under 2 stand 5: down they are taken as 3 and 1, and the one left over from the lowest.
        DUE.is("by age: would(2, 0)", byAge.would(2, 0), 1007);
        DUE.is("by age: would(2, 1)", byAge.would(2, 1), 1003);
        DUE.is("by age: would(2, 2)", byAge.would(2, 2), 1005);

        StrikePlan x = new StrikePlan();
        x.bound(0, 5);
        x.bound(2, 1);
        x.bound(3, 1);
        x.pour();
        x.days(10);
        x.pour();
        x.days(10);
        x.slow(1, 5);
        DUE.is("by strength: would(0, 0)", x.would(0, 0), 1007);
        DUE.is("by strength: would(0, 1)", x.would(0, 1), 1003);
        x.bound(3, 0);
        DUE.is("by rule 0: would(0, 0)", x.would(0, 0), 1005);
        DUE.is("by rule 0: would(0, 1)", x.would(0, 1), 1005);
        x.bound(3, 2);
        DUE.is("by age: would(0, 0)", x.would(0, 0), 1007);
    }

    private static void wouldShareAlike() {
        StrikePlan x = new StrikePlan();
        x.pour();
        x.pour();
        for (int rule = 0; rule <= 2; rule++) {
            x.bound(3, rule);
            // All parts are 0 on the first day, so each has 1.
            DUE.is("alike by " + rule + ": would(0, 0)", x.would(0, 0), 1020);
            DUE.is("alike by " + rule + ": would(0, 1)", x.would(0, 1), 1020);
            DUE.is("alike by " + rule + ": would(1, 1)", x.would(1, 1), 1020);
        }
        x.days(1);
        x.bound(3, 0);
        x.pour();
        // The youngest has no part: 60 go to the other two.
        DUE.is("no part: would(0, 0)", x.would(0, 0), 1030);
        DUE.is("no part: would(0, 1)", x.would(0, 1), 1030);
        DUE.is("no part: would(0, 2)", x.would(0, 2), 1000);
    }

    /** Floor 0 has no strength by rule 1, so what is left over passes it by. */
    private static void leftOverGoesToParts() {
        StrikePlan x = new StrikePlan();
        x.bound(0, 5);
        x.bound(2, 1);
        x.bound(3, 1);
        x.pour();
        x.pour();
        x.pour();
        x.days(9);
        x.slow(0, 9);
        // 15 among 0, 54 and 54: 7 each, one left over.
        DUE.is("no part: would(0, 0)", x.would(0, 0), 1000);
        DUE.is("one left over: would(0, 1)", x.would(0, 1), 1008);
        DUE.is("would(0, 2)", x.would(0, 2), 1007);
        x.bound(3, 0);
        x.slow(0, 0);
        x.pour();
        x.days(1);
        // By rule 0 the part is 1 at any age above 0: ages 10, 10, 10 and 1.
        for (int k = 0; k < 4; k++) {
            DUE.is("alike: would(0, " + k + ")", x.would(0, k), 1005);
        }
    }

    private static void wouldLeaveTheGroundedStack() {
        StrikePlan x = new StrikePlan();
        x.pour();
        x.days(10);
        x.pour();
        x.days(10);
        DUE.is("grounded: would(1, 0)", x.would(1, 0), 1000);
        DUE.is("grounded: would(1, 1)", x.would(1, 1), 1020);
    }

    private static void wouldRefused() {
        StrikePlan x = Towers.lightPair(0);
        DUE.is("no props: would(0, 0)", x.would(0, 0), UNKNOWN);
        DUE.is("would(1, 1)", x.would(1, 1), 1005);
        int[] strange = {-1, 2, 8, 32, 33, Integer.MIN_VALUE, Integer.MAX_VALUE};
        for (int i : strange) {
            DUE.is("would(" + i + ", 0)", x.would(i, 0), UNKNOWN);
            DUE.is("would(1, " + i + ")", x.would(1, i), UNKNOWN);
        }
    }

    private static void leastCycle() {
        StrikePlan x = new StrikePlan();
        x.bound(0, 30);
        x.bound(1, 120);
        cycles(x, 4, 3, 3);
        x.bound(2, 1);
        x.bound(3, 1);
        cycles(x, 5, 3, 3);
        x.bound(2, 2);
        x.bound(3, 2);
        cycles(x, 4, 2, 3);
        // The tower that stands, its day and its slow concrete count for nothing.
        x.pour();
        x.slow(0, 9);
        x.days(33);
        cycles(x, 4, 2, 3);
        // One row: each floor must bear two at the age of one cycle: 60 of 60, never by table 0.
        x.bound(1, 60);
        x.bound(2, 0);
        DUE.is("never: cycle(1)", x.cycle(1), NONE);
        x.bound(2, 1);
        DUE.is("at full strength: cycle(1)", x.cycle(1), 10);
        int[] outside = {0, 4, -1, Integer.MIN_VALUE, Integer.MAX_VALUE};
        for (int m : outside) {
            DUE.is("cycle(" + m + ")", x.cycle(m), OUTSIDE);
        }
        longestCycle();
    }

    /** Weight 50 twice on strength 115 * 87 / 100 = 100, which table 0 has at ripe 27 to 28. */
    private static void longestCycle() {
        StrikePlan x = new StrikePlan();
        x.bound(0, 50);
        x.bound(1, 115);
        DUE.is("hundredths(0, 27)", x.hundredths(0, 27), 87);
        DUE.is("27 days: cycle(1)", x.cycle(1), 27);
        x.bound(0, 43);
        x.bound(1, 99);
        // 99 * 86 / 100 is 85, 99 * 87 / 100 is 86.
        DUE.is("27 days again: cycle(1)", x.cycle(1), 27);
        x.bound(0, 7);
        x.bound(1, 16);
        // 16 * 87 / 100 is 13, 16 * 88 / 100 is 14: from ripe 30 on.
        DUE.is("30 days are too many: cycle(1)", x.cycle(1), NONE);
    }

    /** What the cycle asks for, done with the deeds themselves. */
    private static void cyclesByDeeds() {
        for (int most = 20; most <= 400; most += 19) {
            for (int setting = 0; setting < 9; setting++) {
                StrikePlan x = new StrikePlan();
                x.bound(1, most);
                x.bound(2, setting / 3);
                x.bound(3, setting % 3);
                for (int m = 1; m <= 3; m++) {
                    int c = 1;
                    while (c <= 28 && !holdsByDeeds(x, m, c)) {
                        c++;
                    }
                    DUE.is("most " + most + ", setting " + setting + ": cycle(" + m + ")", x.cycle(m), c > 28 ? NONE : c);
                }
            }
        }
    }

    private static boolean holdsByDeeds(StrikePlan like, int m, int c) {
        StrikePlan x = new StrikePlan();
        for (int what = 0; what < 4; what++) {
            x.bound(what, like.told(what + 2));
        }
        x.pour();
        for (int k = 1; k < 8; k++) {
            x.days(c);
            int rows = x.told(6);
            if (Integer.bitCount(rows) == m && x.strike(Integer.numberOfTrailingZeros(rows)) < 0) {
                return false;
            }
            if (x.pour() < 0) {
                return false;
            }
        }
        return true;
    }

    private static void cycles(StrikePlan x, int one, int two, int three) {
        DUE.is("cycle(1)", x.cycle(1), one);
        DUE.is("cycle(2)", x.cycle(2), two);
        DUE.is("cycle(3)", x.cycle(3), three);
    }

    private static void askingChangesNothing() {
        StrikePlan x = Towers.lightPair(1);
        x.pour();
        String ahead = Due.stateOf(x);
        x.cycle(1);
        x.would(1, 0);
        x.would(2, 2);
        x.hundredths(0, 3);
        DUE.same("after asking", Due.stateOf(x), ahead);
    }
}
