/** Boundary cases of promises 1 to 6: a new object and what is asked of the tower. */
final class TowerBoundaries {
    private static final int NONE = StrikePlan.NONE;
    private static final int UNKNOWN = StrikePlan.UNKNOWN;
    private static final int OUTSIDE = StrikePlan.OUTSIDE;
    private static final int NOT = StrikePlan.NOT;
    private static final int MIN = Integer.MIN_VALUE;
    private static final int MAX = Integer.MAX_VALUE;

    private TowerBoundaries() {
    }

    // ---- promise 1: a new object

    static void promise01_newObject_noFloors(Due due) {
        StrikePlan x = new StrikePlan();
        due.is("FLOORS", x.told(1), 0);
        for (int what = 0; what <= 10; what++) {
            due.is("floor(0, " + what + ")", x.floor(0, what), UNKNOWN);
        }
        due.is("would(0, 0)", x.would(0, 0), UNKNOWN);
        due.is("strike(0)", x.strike(0), UNKNOWN);
        due.is("back(0)", x.back(0), UNKNOWN);
        due.is("slow(0, 0)", x.slow(0, 0), UNKNOWN);
        due.is("write(0, 0)", x.write(0, 0), UNKNOWN);
    }

    static void promise01_newObject_whatIsSoAtFirst(Due due) {
        StrikePlan x = new StrikePlan();
        int[] want = {0, 0, 20, 60, 0, 0, 0, 0, 1, 0, 0, 0, NONE, 0};
        for (int what = 0; what < want.length; what++) {
            due.is("told(" + what + ")", x.told(what), want[what]);
        }
        due.is("THE SEED", x.seed(0), 0);
    }

    static void promise01_newObject_nothingToUndo_noBook_noImages(Due due) {
        StrikePlan x = new StrikePlan();
        due.is("undo(1)", x.undo(1), NOT);
        due.is("tear()", x.tear(), 0);
        due.is("goBack(0)", x.goBack(0), NOT);
        due.is("goBack(1)", x.goBack(1), NOT);
    }

    // ---- promise 2: told

    static void promise02_told_tooSmall_isOutside(Due due) {
        due.refuses(() -> Towers.lightPair(0), "told(-1)", x -> x.told(-1), OUTSIDE);
        due.refuses(() -> Towers.lightPair(0), "told(MIN)", x -> x.told(MIN), OUTSIDE);
    }

    static void promise02_told_tooLarge_isOutside(Due due) {
        due.refuses(() -> Towers.lightPair(0), "told(14)", x -> x.told(14), OUTSIDE);
        due.refuses(() -> Towers.lightPair(0), "told(MAX)", x -> x.told(MAX), OUTSIDE);
    }

    static void promise02_told_0And13_areTheEnds(Due due) {
        StrikePlan x = Towers.lightPair(0);
        due.is("told(0)", x.told(0), 20);
        due.is("told(13)", x.told(13), 8);
    }

    static void promise02_told_noFloors(Due due) {
        StrikePlan x = new StrikePlan();
        due.is("PROPS", x.told(6), 0);
        due.is("WEAK", x.told(7), 0);
        due.is("SAFE", x.told(8), 1);
        due.is("MAY", x.told(9), 0);
        due.is("the ground", x.told(10), 0);
    }

    static void promise02_told_ground_is0_withoutPropsUnderFloor0(Due due) {
        StrikePlan x = Towers.oneBearsAll();
        x.pour();
        due.is("PROPS under 1 and 2", x.told(6), 6);
        due.is("the ground", x.told(10), 0);
    }

    /** Floor 0 bears 10 and weighs 5; its STACK is GROUNDED, so nothing goes from it when 1 is struck. */
    static void promise02_told_ground_mayBeBelow0(Due due) {
        StrikePlan x = Towers.oneBearsAll();
        x.back(0);
        x.strike(1);
        due.is("LOAD of 0", x.floor(0, 3), 1010);
        due.is("the ground", x.told(10), -5);
        due.is("FORCE under 0", x.floor(0, 5), 995);
    }

    static void promise02_told_entries_from0To20(Due due) {
        StrikePlan x = Towers.lightPair(0);
        due.is("no entries", x.told(11), 0);
        for (int k = 1; k <= 21; k++) {
            x.write(0, 5);
        }
        due.is("20 entries", x.told(11), 20);
    }

    static void promise02_told_wrong_isNone_whenAllIsRight(Due due) {
        StrikePlan x = Towers.lightPair(0);
        due.is("no entries", x.told(12), NONE);
        x.write(0, 5);
        x.write(1, 5);
        due.is("two right ones", x.told(12), NONE);
    }

    static void promise02_told_wrong_isTheFirstEntry_notItsFloor(Due due) {
        StrikePlan x = Towers.lightPair(0);
        x.write(1, 5);
        x.write(1, 5);
        x.write(0, 6);
        x.write(1, 6);
        due.is("entry 2, of floor 0", x.told(12), 2);
        x.pour();
        due.is("entry 0, of floor 1", x.told(12), 0);
    }

    static void promise02_told_wrong_isTheLastOf20(Due due) {
        StrikePlan x = Towers.lightPair(0);
        for (int k = 0; k < 19; k++) {
            x.write(0, 5);
        }
        x.write(0, 4);
        due.is("entry 19", x.told(12), 19);
    }

    static void promise02_told_wrong_aFloorThatThereIsNoMore(Due due) {
        StrikePlan x = Towers.lightPair(0);
        x.pour();
        x.write(2, 0);
        due.is("right", x.told(12), NONE);
        x.undo(1);
        due.is("floor 2 is no more, though it bore 0", x.told(12), 0);
        x.pour();
        due.is("there is one again", x.told(12), NONE);
    }

    static void promise02_told_undoable_from0To20(Due due) {
        StrikePlan x = new StrikePlan();
        due.is("none", x.told(13), 0);
        for (int k = 1; k <= 20; k++) {
            x.days(1);
        }
        due.is("20", x.told(13), 20);
        x.days(1);
        due.is("20 at most", x.told(13), 20);
    }

    // ---- promise 3: floor

    static void promise03_floor_thatThereIsNot_isUnknown(Due due) {
        for (int i : new int[] {-1, 2, 7, 8, 31, 32, MIN, MAX}) {
            due.refuses(() -> Towers.lightPair(0), "floor(" + i + ", 0)", x -> x.floor(i, 0), UNKNOWN);
        }
    }

    static void promise03_floor_thatThereIsNoMore_isUnknown(Due due) {
        StrikePlan x = Towers.lightPair(0);
        x.clear();
        due.is("floor(0, 0) after clear()", x.floor(0, 0), UNKNOWN);
        x.undo(1);
        due.is("floor(1, 0) after undo(1)", x.floor(1, 0), 10);
        x.pour();
        x.undo(1);
        due.is("floor(2, 0) after undo(1)", x.floor(2, 0), UNKNOWN);
    }

    static void promise03_floor_0And7_areTheEndsOfAFullTower(Due due) {
        StrikePlan x = Towers.eight();
        due.is("floor(0, 0)", x.floor(0, 0), 80);
        due.is("floor(7, 0)", x.floor(7, 0), 10);
        due.is("floor(8, 0)", x.floor(8, 0), UNKNOWN);
    }

    static void promise03_floor_whatTooSmallOrTooLarge_isOutside(Due due) {
        for (int what : new int[] {-1, 11, MIN, MAX}) {
            due.refuses(() -> Towers.lightPair(0), "floor(1, " + what + ")", x -> x.floor(1, what), OUTSIDE);
        }
    }

    static void promise03_floor_what0And10_areTheEnds(Due due) {
        StrikePlan x = Towers.lightPair(0);
        due.is("floor(1, 0)", x.floor(1, 0), 10);
        due.is("floor(1, 10)", x.floor(1, 10), 945);
    }

    static void promise03_floor_unknownIsAheadOfOutside(Due due) {
        due.refuses(() -> Towers.lightPair(0), "floor(2, 11)", x -> x.floor(2, 11), UNKNOWN);
        due.refuses(() -> Towers.lightPair(0), "floor(-1, -1)", x -> x.floor(-1, -1), UNKNOWN);
    }

    static void promise03_floor_load_isAbove1000_andBelowIt(Due due) {
        StrikePlan x = Towers.oneBearsAll();
        due.is("10", x.floor(0, 3), 1010);
        due.is("0", x.floor(1, 3), 1000);
        x.pour();
        x.days(1);
        x.bound(3, 0);
        x.strike(2);
        due.is("-2", x.floor(1, 3), 998);
    }

    static void promise03_floor_force_is1000_withoutProps(Due due) {
        StrikePlan x = Towers.lightPair(0);
        due.is("PROPS", x.floor(0, 4), 0);
        due.is("FORCE", x.floor(0, 5), 1000);
        due.is("PROPS under 1", x.floor(1, 4), 1);
    }

    static void promise03_floor_earliest_isNone_withoutProps(Due due) {
        StrikePlan x = Towers.lightPair(0);
        due.is("PROPS that could go at once", x.floor(1, 9), 0);
        due.is("no PROPS", x.floor(0, 9), NONE);
    }

    static void promise03_floor_harm_isNone_withoutProps(Due due) {
        StrikePlan x = Towers.lightPair(0);
        due.is("PROPS", x.floor(1, 10), 945);
        due.is("no PROPS", x.floor(0, 10), NONE);
    }

    // ---- promise 4: hundredths

    static void promise04_hundredths_tableTooSmallOrTooLarge_isOutside(Due due) {
        for (int table : new int[] {-1, 3, MIN, MAX}) {
            due.refuses(StrikePlan::new, "hundredths(" + table + ", 5)", x -> x.hundredths(table, 5), OUTSIDE);
        }
    }

    /** -4 would be a divisor of 0 by TABLE 0. */
    static void promise04_hundredths_ripeTooSmall_isOutside(Due due) {
        for (int r : new int[] {-1, -4, MIN}) {
            for (int t = 0; t <= 2; t++) {
                int table = t;
                due.refuses(StrikePlan::new, "hundredths(" + t + ", " + r + ")", x -> x.hundredths(table, r), OUTSIDE);
            }
        }
    }

    static void promise04_hundredths_ripeTooLarge_isOutside(Due due) {
        for (int r : new int[] {1000, MAX}) {
            for (int t = 0; t <= 2; t++) {
                int table = t;
                due.refuses(StrikePlan::new, "hundredths(" + t + ", " + r + ")", x -> x.hundredths(table, r), OUTSIDE);
            }
        }
    }

    static void promise04_hundredths_ripe0_is0(Due due) {
        StrikePlan x = new StrikePlan();
        for (int table = 0; table <= 2; table++) {
            due.is("TABLE " + table, x.hundredths(table, 0), 0);
        }
    }

    static void promise04_hundredths_ripe1_andRipe999(Due due) {
        StrikePlan x = new StrikePlan();
        int[] first = {20, 10, 20};
        int[] last = {99, 100, 100};
        for (int table = 0; table <= 2; table++) {
            due.is("1 by TABLE " + table, x.hundredths(table, 1), first[table]);
            due.is("999 by TABLE " + table, x.hundredths(table, 999), last[table]);
        }
    }

    static void promise04_hundredths_table0_isCut_andNever100(Due due) {
        StrikePlan x = new StrikePlan();
        due.is("2", x.hundredths(0, 2), 33);
        due.is("395", x.hundredths(0, 395), 98);
        due.is("396", x.hundredths(0, 396), 99);
    }

    static void promise04_hundredths_table1_is100AtMost_from10On(Due due) {
        StrikePlan x = new StrikePlan();
        due.is("9", x.hundredths(1, 9), 90);
        due.is("10", x.hundredths(1, 10), 100);
        due.is("11", x.hundredths(1, 11), 100);
    }

    static void promise04_hundredths_table2_risesAtEachDoubling(Due due) {
        StrikePlan x = new StrikePlan();
        int[] ripe = {1, 2, 3, 4, 7, 8, 15, 16};
        int[] want = {20, 40, 40, 60, 60, 80, 80, 100};
        for (int k = 0; k < ripe.length; k++) {
            due.is("RIPE " + ripe[k], x.hundredths(2, ripe[k]), want[k]);
        }
    }

    static void promise04_hundredths_table2_is100AtMost_from32On(Due due) {
        StrikePlan x = new StrikePlan();
        for (int r : new int[] {31, 32, 63, 64, 128, 256, 512}) {
            due.is("RIPE " + r, x.hundredths(2, r), 100);
        }
    }

    /** By the TABLE that is asked for, not by that of the tower. */
    static void promise04_hundredths_anotherTableThanTheTowers(Due due) {
        StrikePlan x = Towers.of(20, 60, 2, 0);
        due.is("TABLE 0", x.hundredths(0, 3), 42);
        due.is("TABLE 1", x.hundredths(1, 3), 30);
    }

    // ---- promise 5: would

    static void promise05_would_noSuchFloorToStrike_isUnknown(Due due) {
        for (int i : new int[] {-1, 2, 7, 8, 32, 33, MIN, MAX}) {
            due.refuses(() -> Towers.lightPair(0), "would(" + i + ", 0)", x -> x.would(i, 0), UNKNOWN);
        }
    }

    static void promise05_would_noSuchFloorToLookAt_isUnknown(Due due) {
        for (int i : new int[] {-1, 2, 7, 8, 32, 33, MIN, MAX}) {
            due.refuses(() -> Towers.lightPair(0), "would(1, " + i + ")", x -> x.would(1, i), UNKNOWN);
        }
    }

    static void promise05_would_noPropsThere_isUnknown(Due due) {
        due.refuses(() -> Towers.lightPair(0), "would(0, 0)", x -> x.would(0, 0), UNKNOWN);
        due.refuses(() -> Towers.lightPair(0), "would(0, 1)", x -> x.would(0, 1), UNKNOWN);
    }

    /** What may not be is told all the same: fresh concrete would bear 20 and has no strength. */
    static void promise05_would_isToldThoughItWouldNotBeSafe(Due due) {
        StrikePlan x = new StrikePlan();
        x.pour();
        due.is("strike(0)", x.strike(0), NOT);
        due.is("would(0, 0)", x.would(0, 0), 1020);
    }

    static void promise05_would_theHighestOfEight(Due due) {
        StrikePlan x = Towers.eight();
        due.is("would(7, 7)", x.would(7, 7), 1005);
        due.is("would(7, 0)", x.would(7, 0), 1000);
        due.is("would(0, 7)", x.would(0, 7), 1005);
    }

    static void promise05_would_aFloorOfAnotherStack_bearsTheSame(Due due) {
        StrikePlan x = Towers.lightPair(0);
        x.strike(1);
        x.pour();
        x.days(1);
        due.is("would(2, 0)", x.would(2, 0), 1005);
        due.is("would(2, 1)", x.would(2, 1), 1005);
        due.is("would(2, 2)", x.would(2, 2), 1005);
    }

    // ---- promise 6: cycle

    static void promise06_cycle_rowsTooFewOrTooMany_isOutside(Due due) {
        for (int m : new int[] {0, 4, -1, MIN, MAX}) {
            due.refuses(() -> Towers.lightPair(0), "cycle(" + m + ")", x -> x.cycle(m), OUTSIDE);
        }
    }

    static void promise06_cycle_1And3Rows_areTheEnds(Due due) {
        StrikePlan x = Towers.of(30, 120, 2, 2);
        due.is("cycle(1)", x.cycle(1), 4);
        due.is("cycle(2)", x.cycle(2), 2);
        due.is("cycle(3)", x.cycle(3), 3);
    }

    /** One floor bears two, which weigh 2, with 20 hundredths of 10. */
    static void promise06_cycle_is1_atLeast(Due due) {
        due.is("MOST 10", Towers.of(1, 10, 0, 0).cycle(1), 1);
        due.is("MOST 9", Towers.of(1, 9, 0, 0).cycle(1), 2);
    }

    /** No weight and no MOST has a least cycle of 28 or 29: by TABLE 0 what 27 days lack comes with 30. */
    static void promise06_cycle_27_isTheGreatestThatOccurs(Due due) {
        due.is("87 hundredths of 23: 20", Towers.of(10, 23, 0, 0).cycle(1), 27);
        due.is("two rows", Towers.of(5, 13, 0, 0).cycle(2), 27);
        due.is("three rows", Towers.of(23, 58, 0, 1).cycle(3), 27);
    }

    static void promise06_cycle_isNone_for30(Due due) {
        due.is("88 hundredths of 16: 14", Towers.of(7, 16, 0, 0).cycle(1), NONE);
        due.is("two rows", Towers.of(6, 15, 0, 0).cycle(2), NONE);
        due.is("three rows", Towers.of(3, 8, 0, 1).cycle(3), NONE);
    }

    static void promise06_cycle_isNone_whenNeverSafe(Due due) {
        StrikePlan x = Towers.of(50, 1, 1, 0);
        for (int m = 1; m <= 3; m++) {
            due.is("cycle(" + m + ")", x.cycle(m), NONE);
        }
    }

    static void promise06_cycle_aLoadJustAsGreatAsTheStrength(Due due) {
        due.is("20 of 20", Towers.of(10, 20, 1, 0).cycle(1), 10);
        due.is("19 of 20", Towers.of(10, 19, 1, 0).cycle(1), NONE);
    }

    /** With three rows it is the sixth floor that is too much before 10 days; five could be had with 4. */
    static void promise06_cycle_countsTheUpperFloorsToo(Due due) {
        StrikePlan x = Towers.of(2, 5, 1, 1);
        due.is("cycle(3)", x.cycle(3), 10);
        due.is("five floors with 4", floorsByDeeds(4), 5);
        due.is("eight floors with 10", floorsByDeeds(10), 8);
    }

    /** How many floors can be had with three rows and c days, by the deeds themselves. */
    private static int floorsByDeeds(int c) {
        StrikePlan x = Towers.of(2, 5, 1, 1);
        x.pour();
        for (int k = 1; k < 8; k++) {
            x.days(c);
            int rows = x.told(6);
            if (Integer.bitCount(rows) == 3 && x.strike(Integer.numberOfTrailingZeros(rows)) < 0 || x.pour() < 0) {
                return k;
            }
        }
        return 8;
    }

    static void promise06_cycle_isOfANewTower_thoughThisOneIsFullAndWeakAndSlow(Due due) {
        StrikePlan x = Towers.eight();
        x.strike(0);
        x.slow(0, 9);
        x.slow(7, 9);
        x.bound(1, 12);
        due.is("not SAFE", x.told(7), 128);
        // 10 on one floor: 90 hundredths of 12.
        due.is("cycle(1)", x.cycle(1), 9);
        due.is("a new tower", Towers.of(5, 12, 1, 0).cycle(1), 9);
    }
}
