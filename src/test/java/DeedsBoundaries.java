/** Boundary cases of promises 7 to 15: the deeds. */
final class DeedsBoundaries {
    private static final int UNKNOWN = StrikePlan.UNKNOWN;
    private static final int OUTSIDE = StrikePlan.OUTSIDE;
    private static final int NOT = StrikePlan.NOT;
    private static final int FULL = StrikePlan.FULL;
    private static final int MIN = Integer.MIN_VALUE;
    private static final int MAX = Integer.MAX_VALUE;
    private static final int[] NO_FLOORS = {-1, 2, 7, 8, 32, 33, MIN, MAX};

    private DeedsBoundaries() {
    }

    // ---- promise 7: days

    static void promise07_days_tooFew_isOutside(Due due) {
        for (int n : new int[] {0, -1, MIN}) {
            due.refuses(() -> Towers.lightPair(0), "days(" + n + ")", x -> x.days(n), OUTSIDE);
        }
    }

    static void promise07_days_tooMany_isOutside(Due due) {
        for (int n : new int[] {61, MAX}) {
            due.refuses(() -> Towers.lightPair(0), "days(" + n + ")", x -> x.days(n), OUTSIDE);
        }
    }

    static void promise07_days_1And60_areTheEnds(Due due) {
        StrikePlan x = new StrikePlan();
        due.is("days(1)", x.days(1), 1);
        due.is("days(60)", x.days(60), 61);
        due.is("DAY", x.told(0), 61);
    }

    /** A DAY has no bound, nor has an AGE: many more than the 999 of hundredths(). */
    static void promise07_days_goOnWithoutAnEnd(Due due) {
        StrikePlan x = Towers.of(20, 400, 0, 2);
        x.pour();
        for (int n = 0; n < 480; n++) {
            x.days(60);
        }
        due.is("DAY", x.told(0), 28800);
        due.is("AGE", x.floor(0, 0), 28800);
        due.is("STRENGTH", x.floor(0, 2), 396);
        due.is("strike(0)", x.strike(0), 0);
    }

    // ---- promise 8: pour

    static void promise08_pour_8Floors_full(Due due) {
        StrikePlan x = new StrikePlan();
        for (int k = 0; k < 8; k++) {
            due.is("pour()", x.pour(), k);
        }
        due.is("the ninth", x.pour(), FULL);
        due.is("FLOORS", x.told(1), 8);
    }

    static void promise08_pour_full_changesNothing(Due due) {
        due.refuses(Towers::eight, "pour()", StrikePlan::pour, FULL);
    }

    static void promise08_pour_fullIsAheadOfNot(Due due) {
        due.refuses(DeedsBoundaries::eightTooWeak, "pour()", StrikePlan::pour, FULL);
        StrikePlan x = eightTooWeak();
        due.is("not SAFE", x.told(8), 0);
    }

    private static StrikePlan eightTooWeak() {
        StrikePlan x = Towers.eight();
        x.strike(0);
        x.bound(1, 1);
        return x;
    }

    static void promise08_pour_notFullAnyMore(Due due) {
        StrikePlan x = Towers.eight();
        x.clear();
        due.is("after clear()", x.pour(), 0);
        for (int k = 1; k < 8; k++) {
            x.pour();
        }
        x.undo(1);
        due.is("after undo(1)", x.pour(), 7);
        due.is("and no more", x.pour(), FULL);
    }

    static void promise08_pour_tooWeak_isNot(Due due) {
        due.refuses(() -> oneFloorOf(9), "pour()", StrikePlan::pour, NOT);
        due.refuses(() -> oneFloorOf(5), "pour()", StrikePlan::pour, NOT);
    }

    static void promise08_pour_justStrongEnough(Due due) {
        due.is("pour()", oneFloorOf(10).pour(), 1);
    }

    /** One floor of weight 5 that stands alone, with so much strength. */
    private static StrikePlan oneFloorOf(int strength) {
        StrikePlan x = Towers.of(5, strength, 1, 0);
        x.pour();
        x.days(10);
        x.strike(0);
        return x;
    }

    /** The ground would bear it, but a floor is too weak for what it bears. */
    static void promise08_pour_anotherFloorIsTooWeak_isNot(Due due) {
        due.refuses(DeedsBoundaries::weakAndGrounded, "pour()", StrikePlan::pour, NOT);
    }

    private static StrikePlan weakAndGrounded() {
        StrikePlan x = Towers.lightPair(0);
        x.back(0);
        x.bound(1, 4);
        return x;
    }

    // ---- promise 9: strike

    static void promise09_strike_noSuchFloor_isUnknown(Due due) {
        for (int i : NO_FLOORS) {
            due.refuses(() -> Towers.lightPair(0), "strike(" + i + ")", x -> x.strike(i), UNKNOWN);
        }
    }

    static void promise09_strike_unknownIsAheadOfNot(Due due) {
        due.refuses(DeedsBoundaries::weakAndGrounded, "strike(2)", x -> x.strike(2), UNKNOWN);
    }

    static void promise09_strike_noProps_isNot(Due due) {
        due.refuses(() -> Towers.lightPair(0), "strike(0)", x -> x.strike(0), NOT);
        StrikePlan x = Towers.lightPair(0);
        due.is("strike(1)", x.strike(1), 1);
        due.is("strike(1) again", x.strike(1), NOT);
    }

    static void promise09_strike_tooWeak_isNot(Due due) {
        due.refuses(() -> propped(19), "strike(0)", x -> x.strike(0), NOT);
    }

    static void promise09_strike_justStrongEnough(Due due) {
        due.is("strike(0)", propped(20).strike(0), 0);
    }

    /** One floor of weight 20 on its props, with so much strength. */
    private static StrikePlan propped(int strength) {
        StrikePlan x = Towers.of(20, strength, 1, 0);
        x.pour();
        x.days(10);
        return x;
    }

    /** Floor 2 is strong enough for its own weight, and floor 1 is relieved, but floor 0 is too weak. */
    static void promise09_strike_anotherFloorIsTooWeak_isNot(Due due) {
        due.refuses(DeedsBoundaries::weakElsewhere, "strike(2)", x -> x.strike(2), NOT);
    }

    private static StrikePlan weakElsewhere() {
        StrikePlan x = Towers.lightPair(0);
        x.strike(1);
        x.pour();
        x.days(10);
        x.slow(0, 9);
        x.bound(1, 16);
        return x;
    }

    /** 10 on floor 0, which has 5: when 1 is struck, each bears its own 5. */
    static void promise09_strike_thatMakesItSafe(Due due) {
        StrikePlan x = Towers.oneBearsAll();
        x.bound(1, 5);
        due.is("SAFE", x.told(8), 0);
        due.is("strike(1)", x.strike(1), 1);
        due.is("SAFE then", x.told(8), 1);
    }

    static void promise09_strike_answersTheFloorItself(Due due) {
        StrikePlan x = Towers.eight();
        due.is("strike(7)", x.strike(7), 7);
        due.is("strike(0)", x.strike(0), 0);
        due.is("strike(3)", x.strike(3), 3);
    }

    // ---- promise 10: back

    static void promise10_back_noSuchFloor_isUnknown(Due due) {
        for (int i : NO_FLOORS) {
            due.refuses(() -> Towers.lightPair(0), "back(" + i + ")", x -> x.back(i), UNKNOWN);
        }
    }

    static void promise10_back_propsStand_isNot(Due due) {
        due.refuses(() -> Towers.lightPair(0), "back(1)", x -> x.back(1), NOT);
        due.refuses(Towers::eight, "back(7)", x -> x.back(7), NOT);
    }

    static void promise10_back_answersTheLowestOfTheStackThen(Due due) {
        StrikePlan x = Towers.eight();
        x.strike(3);
        x.strike(5);
        x.strike(0);
        due.is("back(5), above a gap under 3", x.back(5), 3);
        due.is("back(3)", x.back(3), 0);
        due.is("back(0)", x.back(0), 0);
        due.is("all stand", x.told(6), 255);
    }

    static void promise10_back_withoutALoad(Due due) {
        StrikePlan x = Towers.eight();
        x.strike(7);
        due.is("back(7)", x.back(7), 0);
        due.is("FORCE under 7", x.floor(7, 5), 1000);
        due.is("LOAD of 7", x.floor(7, 3), 1005);
    }

    static void promise10_back_isNotRefused_thoughNotSafe(Due due) {
        StrikePlan x = Towers.lightPair(0);
        x.bound(1, 1);
        due.is("SAFE", x.told(8), 0);
        due.is("back(0)", x.back(0), 0);
    }

    // ---- promise 11: slow

    static void promise11_slow_noSuchFloor_isUnknown(Due due) {
        for (int i : NO_FLOORS) {
            due.refuses(() -> Towers.lightPair(0), "slow(" + i + ", 1)", x -> x.slow(i, 1), UNKNOWN);
        }
    }

    static void promise11_slow_tooLittleOrTooMuch_isOutside(Due due) {
        for (int v : new int[] {-1, 10, MIN, MAX}) {
            due.refuses(() -> Towers.lightPair(0), "slow(0, " + v + ")", x -> x.slow(0, v), OUTSIDE);
        }
    }

    static void promise11_slow_unknownIsAheadOfOutside(Due due) {
        due.refuses(() -> Towers.lightPair(0), "slow(2, 10)", x -> x.slow(2, 10), UNKNOWN);
        due.refuses(() -> Towers.lightPair(0), "slow(-1, -1)", x -> x.slow(-1, -1), UNKNOWN);
    }

    static void promise11_slow_0And9_areTheEnds(Due due) {
        StrikePlan x = Towers.lightPair(0);
        due.is("slow(1, 9)", x.slow(1, 9), 0);
        due.is("SLOW", x.floor(1, 1), 9);
        due.is("slow(1, 0)", x.slow(1, 0), 9);
        due.is("SLOW again", x.floor(1, 1), 0);
        due.is("of the other", x.floor(0, 1), 0);
    }

    static void promise11_slow_theSameAgain_isADeed(Due due) {
        StrikePlan x = Towers.lightPair(0);
        due.is("slow(1, 0)", x.slow(1, 0), 0);
        due.is("how many can be undone", x.told(13), 9);
    }

    static void promise11_slow_isNotRefused_thoughNotSafeThen(Due due) {
        StrikePlan x = Towers.lightPair(0);
        x.bound(1, 40);
        due.is("slow(1, 9)", x.slow(1, 9), 0);
        due.is("WEAK", x.told(7), 2);
    }

    static void promise11_slow_aFloorPouredAnew_isNot(Due due) {
        StrikePlan x = Towers.lightPair(0);
        x.slow(0, 9);
        x.slow(1, 9);
        x.clear();
        x.pour();
        due.is("SLOW of 0", x.floor(0, 1), 0);
        x.pour();
        due.is("SLOW of 1", x.floor(1, 1), 0);
    }

    // ---- promise 12: bound

    static void promise12_bound_whatTooSmallOrTooLarge_isOutside(Due due) {
        for (int what : new int[] {-1, 4, MIN, MAX}) {
            due.refuses(StrikePlan::new, "bound(" + what + ", 1)", x -> x.bound(what, 1), OUTSIDE);
        }
    }

    static void promise12_bound_weight_1To50(Due due) {
        ends(due, 0, 1, 50);
    }

    static void promise12_bound_most_1To400(Due due) {
        ends(due, 1, 1, 400);
    }

    static void promise12_bound_table_0To2(Due due) {
        ends(due, 2, 0, 2);
    }

    static void promise12_bound_rule_0To2(Due due) {
        ends(due, 3, 0, 2);
    }

    private static void ends(Due due, int what, int least, int greatest) {
        StrikePlan x = new StrikePlan();
        int first = x.told(2 + what);
        due.is("the greatest", x.bound(what, greatest), first);
        due.is("it is so", x.told(2 + what), greatest);
        due.is("the least", x.bound(what, least), greatest);
        due.is("it is so", x.told(2 + what), least);
        for (int v : new int[] {least - 1, greatest + 1, MIN, MAX}) {
            due.refuses(StrikePlan::new, "bound(" + what + ", " + v + ")", y -> y.bound(what, v), OUTSIDE);
        }
    }

    static void promise12_bound_eachOnItsOwn(Due due) {
        StrikePlan x = Towers.of(11, 22, 1, 2);
        int[] want = {11, 22, 1, 2};
        for (int what = 0; what < 4; what++) {
            due.is("told(" + (2 + what) + ")", x.told(2 + what), want[what]);
        }
    }

    static void promise12_bound_weightWhileThereAreFloors_isNot(Due due) {
        due.refuses(() -> Towers.lightPair(0), "bound(0, 6)", x -> x.bound(0, 6), NOT);
        due.refuses(() -> Towers.lightPair(0), "the same: bound(0, 5)", x -> x.bound(0, 5), NOT);
        due.refuses(() -> propped(1), "one FLOOR: bound(0, 6)", x -> x.bound(0, 6), NOT);
    }

    static void promise12_bound_outsideIsAheadOfNot(Due due) {
        due.refuses(() -> Towers.lightPair(0), "bound(0, 51)", x -> x.bound(0, 51), OUTSIDE);
        due.refuses(() -> Towers.lightPair(0), "bound(0, 0)", x -> x.bound(0, 0), OUTSIDE);
    }

    static void promise12_bound_theOthersWhileThereAreFloors(Due due) {
        StrikePlan x = Towers.lightPair(0);
        due.is("MOST", x.bound(1, 61), 60);
        due.is("TABLE", x.bound(2, 2), 1);
        due.is("RULE", x.bound(3, 1), 0);
    }

    static void promise12_bound_weightWhenThereAreNoFloorsAnyMore(Due due) {
        StrikePlan x = Towers.lightPair(0);
        x.clear();
        due.is("after clear()", x.bound(0, 6), 5);
        x.pour();
        x.undo(1);
        due.is("after undo(1)", x.bound(0, 7), 6);
        due.is("undo(3): WEIGHT, WEIGHT, clear()", x.undo(3), 20);
        due.is("WEIGHT as it was", x.told(2), 5);
    }

    // ---- promise 13: clear

    static void promise13_clear_noFloors_0(Due due) {
        StrikePlan x = new StrikePlan();
        x.days(7);
        due.is("clear()", x.clear(), 0);
        due.is("DAY", x.told(0), 0);
        due.is("a deed", x.told(13), 2);
    }

    static void promise13_clear_8Floors(Due due) {
        StrikePlan x = Towers.eight();
        due.is("clear()", x.clear(), 8);
        int[] want = {0, 0, 5, 400, 1, 0, 0, 0, 1, 0, 0};
        for (int what = 0; what < want.length; what++) {
            due.is("told(" + what + ")", x.told(what), want[what]);
        }
        due.is("clear() again", x.clear(), 0);
    }

    static void promise13_clear_leavesBookSeedImages(Due due) {
        StrikePlan x = Towers.lightPair(0);
        x.keep(1);
        x.seed(77);
        x.write(0, 5);
        x.clear();
        due.is("entries", x.told(11), 1);
        due.is("its FLOOR is no more", x.told(12), 0);
        due.is("THE SEED", x.seed(0), 77);
        due.is("the IMAGE", x.goBack(1), 1);
        due.is("FLOORS", x.told(1), 2);
    }

    static void promise13_clear_canBeUndone(Due due) {
        StrikePlan x = Towers.eight();
        String ahead = Due.towerOf(x);
        x.clear();
        x.pour();
        due.is("undo(2)", x.undo(2), 80);
        due.same("as ahead of it", Due.towerOf(x), ahead);
    }

    // ---- promise 14: drift

    static void promise14_drift_tooFewOrTooMany_isOutside(Due due) {
        for (int n : new int[] {0, 21, -1, MIN, MAX}) {
            due.refuses(() -> Towers.lightPair(0), "drift(" + n + ")", x -> x.drift(n), OUTSIDE);
        }
    }

    static void promise14_drift_1And20_areTheEnds(Due due) {
        StrikePlan x = new StrikePlan();
        x.seed(397);
        due.is("drift(20)", x.drift(20), 5);
        due.is("20 times", x.told(13), 20);
        StrikePlan y = new StrikePlan();
        y.seed(397);
        for (int n = 0; n < 20; n++) {
            y.drift(1);
        }
        due.same("20 times 1", Due.wholeOf(y), Due.wholeOf(x));
    }

    /** "Left over by 2 to the 31": from the greatest seed, and from one whose product is far beyond it. */
    static void promise14_drift_seedWrapsAround(Due due) {
        for (int first : new int[] {0, 1, MAX, MAX - 1, 1 << 30, 1103527590}) {
            StrikePlan x = new StrikePlan();
            x.seed(first);
            x.drift(20);
            long want = first;
            for (int draw = 0; draw < 60; draw++) {
                want = Towers.nextSeed(want);
            }
            due.is("60 draws from " + first, x.seed(0), want);
        }
    }

    static void promise14_drift_threeDrawsEachTime_whateverIsDone(Due due) {
        for (int deed = 0; deed < 5; deed++) {
            StrikePlan x = Towers.lightPair(0);
            long seed = Towers.seedFor(deed, 1, 9);
            Towers.driftOnce(x, deed, 1, 9);
            due.is("on " + deed, x.seed(0), Towers.nextSeed(Towers.nextSeed(Towers.nextSeed(seed))));
        }
    }

    static void promise14_drift_on0And1_daysGoBy_0To9(Due due) {
        for (int deed = 0; deed <= 1; deed++) {
            for (int gone : new int[] {0, 1, 9}) {
                StrikePlan x = Towers.lightPair(0);
                due.is("FLOORS", Towers.driftOnce(x, deed, 1, gone), 2);
                due.is(deed + ", " + gone + ": DAY", x.told(0), 20 + gone);
                due.is(deed + ", " + gone + ": AGE", x.floor(1, 0), 10 + gone);
                due.is(deed + ", " + gone + ": PROPS", x.told(6), 2);
            }
        }
    }

    static void promise14_drift_on2_poured(Due due) {
        StrikePlan x = Towers.lightPair(0);
        due.is("FLOORS", Towers.driftOnce(x, 2, 0, 9), 3);
        due.is("DAY", x.told(0), 20);
        due.is("LOAD of 0", x.floor(0, 3), 1008);
    }

    static void promise14_drift_on2_full_nothingIsDone(Due due) {
        nothingIsDone(due, Towers.eight(), 2, 0);
    }

    static void promise14_drift_on2_tooWeak_nothingIsDone(Due due) {
        nothingIsDone(due, oneFloorOf(9), 2, 0);
    }

    static void promise14_drift_on3_struck(Due due) {
        StrikePlan x = Towers.eight();
        due.is("FLOORS", Towers.driftOnce(x, 3, 7, 9), 8);
        due.is("PROPS without 7", x.told(6), 127);
        due.is("LOAD of 7", x.floor(7, 3), 1005);
        due.is("FLOORS", Towers.driftOnce(x, 3, 0, 9), 8);
        due.is("PROPS without 0 and 7", x.told(6), 126);
        due.is("DAY", x.told(0), 80);
    }

    static void promise14_drift_on3_noSuchFloor_nothingIsDone(Due due) {
        nothingIsDone(due, Towers.lightPair(0), 3, 2);
        nothingIsDone(due, new StrikePlan(), 3, 0);
    }

    static void promise14_drift_on3_noProps_nothingIsDone(Due due) {
        nothingIsDone(due, Towers.lightPair(0), 3, 0);
    }

    static void promise14_drift_on3_tooWeak_nothingIsDone(Due due) {
        nothingIsDone(due, propped(19), 3, 0);
    }

    static void promise14_drift_on4_putBack(Due due) {
        StrikePlan x = Towers.lightPair(0);
        due.is("FLOORS", Towers.driftOnce(x, 4, 0, 9), 2);
        due.is("PROPS", x.told(6), 3);
        due.is("DAY", x.told(0), 20);
    }

    static void promise14_drift_on4_noSuchFloor_nothingIsDone(Due due) {
        nothingIsDone(due, Towers.lightPair(0), 4, 2);
        nothingIsDone(due, new StrikePlan(), 4, 0);
    }

    static void promise14_drift_on4_propsStand_nothingIsDone(Due due) {
        nothingIsDone(due, Towers.lightPair(0), 4, 1);
    }

    /** The tower is as it was, but it was one time, that can be undone. */
    private static void nothingIsDone(Due due, StrikePlan x, int deed, int i) {
        x.keep(0);
        String ahead = Due.towerOf(x);
        due.is("drift(1)", Towers.driftOnce(x, deed, i, 9), x.told(1));
        due.same("nothing is done", Due.towerOf(x), ahead);
        due.is("one time", x.told(13), 1);
    }

    // ---- promise 15: undo

    static void promise15_undo_tooFewOrTooMany_isOutside(Due due) {
        for (int n : new int[] {0, 21, -1, MIN, MAX}) {
            due.refuses(DeedsBoundaries::manyDays, "undo(" + n + ")", x -> x.undo(n), OUTSIDE);
        }
    }

    private static StrikePlan manyDays() {
        StrikePlan x = new StrikePlan();
        for (int k = 0; k < 30; k++) {
            x.days(1);
        }
        return x;
    }

    static void promise15_undo_outsideIsAheadOfNot(Due due) {
        due.refuses(StrikePlan::new, "undo(0)", x -> x.undo(0), OUTSIDE);
        due.refuses(StrikePlan::new, "undo(21)", x -> x.undo(21), OUTSIDE);
    }

    static void promise15_undo_notSoMany_isNot(Due due) {
        due.refuses(StrikePlan::new, "undo(1)", x -> x.undo(1), NOT);
        due.refuses(StrikePlan::new, "undo(20)", x -> x.undo(20), NOT);
        due.refuses(() -> Towers.lightPair(0), "undo(9) of 8", x -> x.undo(9), NOT);
    }

    static void promise15_undo_justAsManyAsThereAre(Due due) {
        StrikePlan x = Towers.lightPair(0);
        due.is("undo(8) of 8", x.undo(8), 0);
        due.same("a new object", Due.wholeOf(x), Due.wholeOf(new StrikePlan()));
    }

    static void promise15_undo_1And20_areTheEnds(Due due) {
        StrikePlan x = manyDays();
        due.is("undo(1)", x.undo(1), 29);
        x.days(1);
        due.is("undo(20)", x.undo(20), 10);
    }

    static void promise15_undo_20AtMostAreKept(Due due) {
        StrikePlan x = manyDays();
        due.is("undo(20)", x.undo(20), 10);
        due.is("the 21st latest", x.undo(1), NOT);
        due.is("DAY", x.told(0), 10);
    }

    /** Twenty are kept in turn: past the end of what holds them, and back over it. */
    static void promise15_undo_wrapAround(Due due) {
        StrikePlan x = manyDays();
        x.undo(15);
        due.is("5 are left", x.told(13), 5);
        for (int k = 0; k < 12; k++) {
            x.days(2);
        }
        due.is("17", x.told(13), 17);
        due.is("undo(13)", x.undo(13), 14);
        due.is("undo(4)", x.undo(4), 10);
        due.is("no more", x.undo(1), NOT);
    }

    static void promise15_undo_cannotBeUndone(Due due) {
        StrikePlan x = new StrikePlan();
        x.days(3);
        x.days(4);
        due.is("undo(1)", x.undo(1), 3);
        due.is("one less", x.told(13), 1);
        due.is("undo(1)", x.undo(1), 0);
    }

    /** days(), pour(), strike(), back(), slow(), bound(), clear(), a time by draws: each is one. */
    static void promise15_undo_eachDeedIsOne(Due due) {
        StrikePlan x = Towers.lightPair(0);
        x.keep(0);
        x.days(1);
        due.is("days()", x.told(13), 1);
        x.pour();
        due.is("pour()", x.told(13), 2);
        x.strike(1);
        due.is("strike()", x.told(13), 3);
        x.back(1);
        due.is("back()", x.told(13), 4);
        x.slow(0, 1);
        due.is("slow()", x.told(13), 5);
        x.bound(3, 1);
        due.is("bound()", x.told(13), 6);
        x.clear();
        due.is("clear()", x.told(13), 7);
        x.drift(3);
        due.is("drift(3)", x.told(13), 10);
    }

    static void promise15_undo_eachDeedIsUndone(Due due) {
        for (int k = 1; k <= 7; k++) {
            StrikePlan x = afterDeeds(k);
            due.is("undo(1): DAY", x.undo(1), k == 1 ? 20 : 21);
            due.same("as ahead of deed " + k, Due.towerOf(x), Due.towerOf(afterDeeds(k - 1)));
        }
    }

    /** A pair, and so many of the kinds of deeds, in the order of the document. */
    private static StrikePlan afterDeeds(int count) {
        StrikePlan x = Towers.lightPair(0);
        for (int k = 1; k <= count; k++) {
            switch (k) {
                case 1: x.days(1); break;
                case 2: x.pour(); break;
                case 3: x.strike(1); break;
                case 4: x.back(1); break;
                case 5: x.slow(0, 1); break;
                case 6: x.bound(1, 70); break;
                default: x.clear(); break;
            }
        }
        return x;
    }

    static void promise15_undo_whatIsNoDeed_isNotCounted(Due due) {
        StrikePlan x = Towers.lightPair(0);
        x.write(0, 1);
        x.tear();
        x.seed(3);
        x.cycle(1);
        x.would(1, 1);
        x.told(9);
        x.floor(1, 9);
        due.is("how many can be undone", x.told(13), 8);
    }

    static void promise15_undo_theSeedStays_andTheBook(Due due) {
        StrikePlan x = Towers.lightPair(0);
        x.write(1, 5);
        x.drift(2);
        int drawn = x.seed(0);
        x.seed(drawn);
        x.undo(2);
        due.is("THE SEED", x.seed(0), drawn);
        x.seed(11);
        x.undo(8);
        due.is("THE SEED that was set", x.seed(0), 11);
        due.is("entries", x.told(11), 1);
    }

    /** A drift of 20 fills all that is kept: the days() ahead of it cannot be undone any more. */
    static void promise15_undo_timesByDraws_oneByOne(Due due) {
        for (int n = 1; n <= 20; n++) {
            StrikePlan x = drifted(20);
            x.undo(n);
            due.same("undo(" + n + ")", Due.towerOf(x), Due.towerOf(drifted(20 - n)));
            due.is("how many are left", x.told(13), 20 - n);
        }
    }

    private static StrikePlan drifted(int times) {
        StrikePlan x = new StrikePlan();
        x.days(60);
        x.seed(397);
        for (int n = 0; n < times; n++) {
            x.drift(1);
        }
        return x;
    }

    static void promise15_undo_notBeyondAnImage(Due due) {
        StrikePlan x = Towers.lightPair(0);
        x.keep(0);
        due.is("after keep(0)", x.undo(1), NOT);
        x.days(1);
        due.is("undo(2) of 1 since", x.undo(2), NOT);
        x.goBack(0);
        due.is("after goBack(0)", x.undo(1), NOT);
    }
}
