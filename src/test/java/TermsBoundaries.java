/** Boundary cases that the document names under "Terms": the words, section 1, section 2. */
final class TermsBoundaries {
    private static final int NONE = StrikePlan.NONE;

    private TermsBoundaries() {
    }

    // ---- the words

    /** "An object is used for at most 512 calls". */
    static void terms_object_the512thCallIsAnswered(Due due) {
        StrikePlan x = new StrikePlan();
        for (int call = 1; call <= 510; call++) {
            x.days(60);
        }
        due.is("call 511: days(60)", x.days(60), 511 * 60);
        due.is("call 512: undo(20)", x.undo(20), 491 * 60);
    }

    static void terms_objects_doNotShareAnything(Due due) {
        StrikePlan first = Towers.lightPair(2);
        first.write(0, 1);
        first.seed(9);
        first.keep(0);
        due.same("a second new object", Due.wholeOf(new StrikePlan()), "0 0 20 60 0 0 0 0 1 0 0 0 -1 0 0");
    }

    /** "/ cuts towards 0": 60 * 42 / 100 is 25.2, 100 * 3 / 7 is 42.8. */
    static void terms_divided_isCut(Due due) {
        StrikePlan x = new StrikePlan();
        x.pour();
        x.days(3);
        due.is("hundredths(0, 3)", x.hundredths(0, 3), 42);
        due.is("STRENGTH", x.floor(0, 2), 25);
    }

    /** Ages 20 and 10 bear 11 and 4: of -5 they get -3 (-3.3) and -1 (-1.7), then the lowest -1. */
    static void terms_divided_belowZero_isCutTowards0(Due due) {
        StrikePlan x = Towers.lightPair(2);
        x.pour();
        due.is("floor(0, 3)", x.floor(0, 3), 1011);
        due.is("floor(1, 3)", x.floor(1, 3), 1004);
        due.is("would(2, 0)", x.would(2, 0), 1007);
        due.is("would(2, 1)", x.would(2, 1), 1003);
    }

    static void terms_numbers_areFrom0On(Due due) {
        StrikePlan x = new StrikePlan();
        due.is("the first FLOOR", x.pour(), 0);
        x.write(0, 1);
        due.is("the first entry", x.told(12), 0);
        due.is("the first IMAGE", x.keep(0), 1);
    }

    /** "A SET is a whole number, bit k for k": from bit 0 to bit 7. */
    static void terms_set_hasBit0ForFloor0_andBit7ForFloor7(Due due) {
        StrikePlan x = Towers.eight();
        due.is("PROPS", x.told(6), 255);
        due.is("MAY", x.told(9), 255);
        x.strike(7);
        due.is("PROPS without 7", x.told(6), 127);
        x.bound(1, 4);
        due.is("WEAK is 7", x.told(7), 128);
        x.bound(1, 400);
        x.strike(0);
        due.is("PROPS without 0 and 7", x.told(6), 126);
    }

    /** "They are far below all that is counted: -1000000001 and on". */
    static void terms_refusals_areFarBelow(Due due) {
        due.is("UNKNOWN", StrikePlan.UNKNOWN, -1000000001);
        due.is("OUTSIDE", StrikePlan.OUTSIDE, -1000000002);
        due.is("NOT", StrikePlan.NOT, -1000000003);
        due.is("FULL", StrikePlan.FULL, -1000000004);
        due.is("NONE is not one of them", NONE, -1);
    }

    // ---- section 1: ages, strengths

    static void section1_age_is0_onTheDayOfPouring(Due due) {
        StrikePlan x = new StrikePlan();
        x.days(60);
        x.pour();
        due.is("AGE", x.floor(0, 0), 0);
        x.days(1);
        due.is("AGE a DAY later", x.floor(0, 0), 1);
    }

    static void section1_ripe_slow9_isCutTo0_until10Days(Due due) {
        StrikePlan x = Towers.of(20, 100, 1, 0);
        x.pour();
        x.slow(0, 9);
        x.days(9);
        due.is("AGE 9, RIPE 0: STRENGTH", x.floor(0, 2), 0);
        x.days(1);
        due.is("AGE 10, RIPE 1: STRENGTH", x.floor(0, 2), 10);
        x.days(9);
        due.is("AGE 19, RIPE 1: STRENGTH", x.floor(0, 2), 10);
    }

    static void section1_ripe_slow1_isCut(Due due) {
        StrikePlan x = Towers.of(20, 100, 1, 0);
        x.pour();
        x.slow(0, 1);
        x.days(1);
        due.is("AGE 1, RIPE 0: STRENGTH", x.floor(0, 2), 0);
        x.days(1);
        due.is("AGE 2, RIPE 1: STRENGTH", x.floor(0, 2), 10);
    }

    static void section1_ripe_slow0_isTheAge(Due due) {
        StrikePlan x = Towers.of(20, 100, 1, 0);
        x.pour();
        x.days(1);
        due.is("AGE 1: STRENGTH", x.floor(0, 2), 10);
    }

    static void section1_strength_is0_atAge0_byEachTable(Due due) {
        StrikePlan x = Towers.of(20, 400, 0, 0);
        x.pour();
        for (int table = 0; table <= 2; table++) {
            x.bound(2, table);
            due.is("TABLE " + table, x.floor(0, 2), 0);
        }
    }

    static void section1_strength_most1_isCutTo0_below100Hundredths(Due due) {
        StrikePlan x = Towers.of(20, 1, 1, 0);
        x.pour();
        x.days(9);
        due.is("90 hundredths of 1", x.floor(0, 2), 0);
        x.days(1);
        due.is("100 hundredths of 1", x.floor(0, 2), 1);
    }

    static void section1_strength_isMost_atMost(Due due) {
        StrikePlan x = Towers.of(20, 400, 1, 0);
        x.pour();
        for (int n = 0; n < 20; n++) {
            x.days(60);
        }
        due.is("TABLE 1", x.floor(0, 2), 400);
        x.bound(2, 2);
        due.is("TABLE 2", x.floor(0, 2), 400);
        x.bound(2, 0);
        // 100 * 1200 / 1204 is 99.
        due.is("TABLE 0 never has it all", x.floor(0, 2), 396);
    }

    // ---- section 1: stacks, forces

    static void section1_stack_ofOneFloor(Due due) {
        StrikePlan x = Towers.lightPair(0);
        x.strike(1);
        for (int i = 0; i <= 1; i++) {
            due.is("lowest of " + i, x.floor(i, 6), i);
            due.is("highest of " + i, x.floor(i, 7), i);
        }
    }

    static void section1_stack_ofAllEight(Due due) {
        StrikePlan x = Towers.eight();
        for (int i = 0; i < 8; i++) {
            due.is("lowest of " + i, x.floor(i, 6), 0);
            due.is("highest of " + i, x.floor(i, 7), 7);
            due.is(i + " is grounded", x.floor(i, 8), 1);
        }
    }

    static void section1_stack_endsWhereNoPropsStand(Due due) {
        StrikePlan x = Towers.eight();
        x.strike(3);
        due.is("highest of 0", x.floor(0, 7), 2);
        due.is("highest of 2", x.floor(2, 7), 2);
        due.is("lowest of 3", x.floor(3, 6), 3);
        due.is("lowest of 7", x.floor(7, 6), 3);
    }

    static void section1_grounded_notAboveAGap(Due due) {
        StrikePlan x = Towers.eight();
        x.strike(3);
        due.is("2 is grounded", x.floor(2, 8), 1);
        due.is("3 is not", x.floor(3, 8), 0);
        due.is("7 is not", x.floor(7, 8), 0);
    }

    static void section1_grounded_notWithoutPropsUnderFloor0(Due due) {
        StrikePlan x = Towers.eight();
        x.strike(0);
        due.is("0 is not", x.floor(0, 8), 0);
        due.is("7 is not", x.floor(7, 8), 0);
    }

    static void section1_force_is0_withoutProps(Due due) {
        StrikePlan x = Towers.oneBearsAll();
        // Floor 0 bears 10, both weigh 10; alone it would be 5 less 10.
        due.is("FORCE under 0", x.floor(0, 5), 1000);
        x.strike(1);
        due.is("FORCE under 1", x.floor(1, 5), 1000);
    }

    static void section1_force_leavesOutFloorsAboveAGap(Due due) {
        StrikePlan x = Towers.eight();
        due.is("the ground, of 8 floors", x.told(10), 40);
        due.is("FORCE under 7", x.floor(7, 5), 1005);
        x.strike(3);
        due.is("the ground, of 3 floors", x.told(10), 15);
        due.is("FORCE under 2", x.floor(2, 5), 1005);
    }

    /** A weak floor 0 and a strong floor 1 share 14 by strength as 3 and 11; each weighs 7. */
    static void section1_force_mayBeBelow0(Due due) {
        StrikePlan x = Towers.of(7, 60, 1, 1);
        x.pour();
        x.days(10);
        x.pour();
        x.days(10);
        x.slow(0, 9);
        x.strike(0);
        due.is("FORCE under 1", x.floor(1, 5), 996);
        due.is("would(1, 0)", x.would(1, 0), 1007);
        due.is("would(1, 1)", x.would(1, 1), 1007);
    }

    // ---- section 1: sharing

    static void section1_rule0_age0_hasNoPart_age1_hasAWholeOne(Due due) {
        StrikePlan x = Towers.lightPair(0);
        x.pour();
        due.is("AGE 0: LOAD", x.floor(2, 3), 1000);
        x.days(1);
        x.back(0);
        x.pour();
        x.pour();
        // The FORCE under 0 is 10: by thirds to ages 21, 11 and 1, who bear 8, 7 and 0; nothing to the new ones.
        int[] want = {1012, 1010, 1003, 1000, 1000};
        for (int i = 0; i < want.length; i++) {
            due.is("would(0, " + i + ")", x.would(0, i), want[i]);
        }
    }

    static void section1_rule1_strength0_hasNoPart(Due due) {
        StrikePlan x = Towers.of(5, 60, 1, 1);
        x.pour();
        x.pour();
        x.days(9);
        x.slow(0, 9);
        due.is("STRENGTH 0: would(0, 0)", x.would(0, 0), 1000);
        due.is("STRENGTH 54: would(0, 1)", x.would(0, 1), 1010);
    }

    static void section1_rule2_age0_hasNoPart(Due due) {
        StrikePlan x = Towers.of(5, 60, 1, 2);
        x.pour();
        x.days(1);
        x.pour();
        due.is("AGE 1: would(0, 0)", x.would(0, 0), 1010);
        due.is("AGE 0: would(0, 1)", x.would(0, 1), 1000);
    }

    static void section1_shared_allParts0_eachHas1_byEachRule(Due due) {
        StrikePlan x = new StrikePlan();
        x.pour();
        x.pour();
        for (int rule = 0; rule <= 2; rule++) {
            x.bound(3, rule);
            due.is("RULE " + rule + ": would(0, 0)", x.would(0, 0), 1020);
            due.is("RULE " + rule + ": would(0, 1)", x.would(0, 1), 1020);
        }
    }

    static void section1_shared_allParts0_eachHas1_inAnUpperStack(Due due) {
        StrikePlan x = Towers.lightPair(0);
        x.pour();
        x.pour();
        x.pour();
        // Fresh floors 2, 3, 4: 15 among them, and from the 14 and 11 of those below, 8 and 7.
        for (int i = 2; i <= 4; i++) {
            due.is("would(2, " + i + ")", x.would(2, i), 1005);
        }
        due.is("would(2, 0)", x.would(2, 0), 1006);
        due.is("would(2, 1)", x.would(2, 1), 1004);
    }

    /** Old, but slow: no strength, so by RULE 1 alike, though the ages are 9 and 8. */
    static void section1_shared_allStrengths0_eachHas1(Due due) {
        StrikePlan x = Towers.of(5, 60, 1, 1);
        x.pour();
        x.days(1);
        x.pour();
        x.days(8);
        x.slow(0, 9);
        x.slow(1, 9);
        due.is("would(0, 0)", x.would(0, 0), 1005);
        due.is("would(0, 1)", x.would(0, 1), 1005);
    }

    /** 5 among three: 1 each, and of the two left over one each to the lowest two. */
    static void section1_leftOver_goesByOnes_fromTheLowestOn(Due due) {
        StrikePlan x = Towers.lightPair(0);
        x.back(0);
        x.pour();
        x.days(10);
        int[] ahead = {1005, 1005, 1000};
        int[] want = {1007, 1007, 1001};
        for (int i = 0; i <= 2; i++) {
            due.is("LOAD of " + i, x.floor(i, 3), ahead[i]);
            due.is("would(0, " + i + ")", x.would(0, i), want[i]);
        }
    }

    /** "Till nothing is left": by cutting nothing is lost, by any WEIGHT and each RULE. */
    static void section1_leftOver_nothingIsLeft(Due due) {
        for (int weight = 1; weight <= 50; weight++) {
            StrikePlan x = Towers.of(weight, 400, 1, weight % 3);
            for (int k = 0; k < 7; k++) {
                x.pour();
                x.days(k + 1);
            }
            int sum = 0;
            for (int i = 0; i < 7; i++) {
                sum += x.would(0, i) - 1000;
            }
            due.is("WEIGHT " + weight + ": all LOADS", sum, 7 * weight);
        }
    }

    /** -5 of floors 0 and 1: -2 each, and one more from the lowest. */
    static void section1_leftOver_belowZero_isTakenFromTheLowest(Due due) {
        StrikePlan x = Towers.lightPair(0);
        x.pour();
        due.is("would(2, 0)", x.would(2, 0), 1005);
        due.is("would(2, 1)", x.would(2, 1), 1005);
        x.undo(1);
        x.bound(3, 2);
        x.pour();
        x.bound(3, 0);
        // By age 5 went as 4 and 1.
        due.is("LOAD of 0", x.floor(0, 3), 1009);
        due.is("LOAD of 1", x.floor(1, 3), 1006);
        due.is("by RULE 0: would(2, 0)", x.would(2, 0), 1006);
        due.is("by RULE 0: would(2, 1)", x.would(2, 1), 1004);
    }

    /** Floor 0 is slow and has no part: of 15 the other two get 7 each, and floor 1 the one left over. */
    static void section1_leftOver_passesByFloorsWithoutAPart(Due due) {
        StrikePlan x = Towers.of(5, 60, 1, 1);
        x.pour();
        x.pour();
        x.pour();
        x.days(9);
        x.slow(0, 9);
        due.is("would(0, 0)", x.would(0, 0), 1000);
        due.is("would(0, 1)", x.would(0, 1), 1008);
        due.is("would(0, 2)", x.would(0, 2), 1007);
    }

    static void section1_grounded_nothingIsShared_whenPoured(Due due) {
        StrikePlan x = Towers.lightPair(0);
        x.back(0);
        x.pour();
        due.is("LOAD of 0", x.floor(0, 3), 1005);
        due.is("LOAD of 1", x.floor(1, 3), 1005);
        due.is("the ground has it", x.told(10), 5);
    }

    static void section1_grounded_nothingIsShared_whenStruckAbove(Due due) {
        StrikePlan x = Towers.eight();
        x.strike(4);
        for (int i = 0; i < 8; i++) {
            due.is("LOAD of " + i, x.floor(i, 3), i < 4 ? 1000 : 1005);
        }
    }

    // ---- section 1: poured, struck, put back, safe

    static void section1_poured_theFirstOfAll_isBorneByTheGround(Due due) {
        StrikePlan x = Towers.of(50, 1, 0, 0);
        due.is("pour()", x.pour(), 0);
        due.is("LOAD", x.floor(0, 3), 1000);
        due.is("PROPS stand under it", x.floor(0, 4), 1);
        due.is("the ground", x.told(10), 50);
    }

    static void section1_poured_isSharedAmongItsOwnStackOnly(Due due) {
        StrikePlan x = Towers.lightPair(0);
        x.strike(1);
        x.pour();
        due.is("LOAD of 0, below a gap", x.floor(0, 3), 1005);
        due.is("LOAD of 1", x.floor(1, 3), 1010);
        due.is("LOAD of 2", x.floor(2, 3), 1000);
    }

    static void section1_struck_underFloor0_thereIsNoFloorBelow(Due due) {
        StrikePlan x = Towers.eight();
        due.is("strike(0)", x.strike(0), 0);
        for (int i = 0; i < 8; i++) {
            due.is("LOAD of " + i, x.floor(i, 3), 1005);
        }
    }

    static void section1_struck_underFloor1_theSameGoesFromFloor0(Due due) {
        StrikePlan x = Towers.oneBearsAll();
        due.is("strike(1)", x.strike(1), 1);
        due.is("LOAD of 0", x.floor(0, 3), 1005);
        due.is("LOAD of 1", x.floor(1, 3), 1005);
    }

    /** What is taken may be more than a floor bears: its LOAD is below 0 then. */
    static void section1_struck_loadMayBeBelow0(Due due) {
        StrikePlan x = Towers.oneBearsAll();
        x.pour();
        x.days(1);
        x.bound(3, 0);
        due.is("strike(2)", x.strike(2), 2);
        due.is("LOAD of 0", x.floor(0, 3), 1012);
        due.is("LOAD of 1", x.floor(1, 3), 998);
    }

    static void section1_back_forceIs0(Due due) {
        StrikePlan x = Towers.oneBearsAll();
        x.strike(1);
        x.back(1);
        due.is("FORCE under 1", x.floor(1, 5), 1000);
        x.back(0);
        due.is("FORCE under 0", x.floor(0, 5), 1000);
        due.is("the ground", x.told(10), 0);
    }

    static void section1_safe_aLoadJustAsGreatAsTheStrength(Due due) {
        StrikePlan x = Towers.lightPair(0);
        x.bound(1, 5);
        due.is("STRENGTH", x.floor(0, 2), 5);
        due.is("LOAD", x.floor(0, 3), 1005);
        due.is("SAFE", x.told(8), 1);
        due.is("WEAK", x.told(7), 0);
    }

    static void section1_safe_notWithOneMore(Due due) {
        StrikePlan x = Towers.lightPair(0);
        x.bound(1, 4);
        due.is("SAFE", x.told(8), 0);
        due.is("WEAK", x.told(7), 3);
    }

    /** "Other things may make it so": they are not refused. */
    static void section1_safe_otherThingsMayEndIt(Due due) {
        StrikePlan bySlow = Towers.lightPair(0);
        due.is("slow(1, 9)", bySlow.slow(1, 9), 0);
        // 10 tenths of a day are RIPE 1: 6 of 60.
        due.is("still SAFE", bySlow.told(8), 1);
        bySlow.bound(1, 40);
        due.is("by slow(): 4 for a LOAD of 5", bySlow.told(7), 2);
        StrikePlan byMost = Towers.lightPair(0);
        due.is("bound(1, 4)", byMost.bound(1, 4), 60);
        due.is("by MOST", byMost.told(8), 0);
        StrikePlan byTable = Towers.lightPair(0);
        byTable.bound(1, 5);
        due.is("bound(2, 0)", byTable.bound(2, 0), 1);
        due.is("by TABLE", byTable.told(8), 0);
        byTable.keep(0);
        byTable.clear();
        due.is("goBack(0)", byTable.goBack(0), 1);
        due.is("by IMAGE", byTable.told(8), 0);
    }

    // ---- section 2

    /** "ASKED, nothing changes by it": every question once, with each number that it knows. */
    static void section2_asked_nothingChanges(Due due) {
        for (int rule = 0; rule <= 2; rule++) {
            StrikePlan x = Towers.lightPair(rule);
            x.pour();
            x.days(1);
            String ahead = Due.wholeOf(x);
            for (int i = 0; i <= 2; i++) {
                for (int floor = 0; floor <= 2; floor++) {
                    x.would(i, floor);
                }
                x.cycle(i + 1);
                x.hundredths(i, 999);
            }
            due.same("RULE " + rule, Due.wholeOf(x), ahead);
        }
    }

    static void section2_may_isEmpty_withoutProps(Due due) {
        StrikePlan x = Towers.lightPair(0);
        x.strike(1);
        due.is("MAY", x.told(9), 0);
    }

    static void section2_may_isOfNow_notOfTomorrow(Due due) {
        StrikePlan x = Towers.of(20, 20, 1, 0);
        x.pour();
        x.days(9);
        due.is("a DAY too early", x.told(9), 0);
        x.days(1);
        due.is("now", x.told(9), 1);
    }

    static void section2_may_isEmpty_whileAnotherFloorIsTooWeak(Due due) {
        StrikePlan x = Towers.lightPair(0);
        x.strike(1);
        x.pour();
        x.days(10);
        due.is("MAY", x.told(9), 4);
        x.slow(0, 9);
        x.bound(1, 20);
        // Floor 0, RIPE 3, has a STRENGTH of 6 for its 5; floors 1 and 2 have 20.
        due.is("MAY while it is SAFE", x.told(9), 4);
        x.bound(1, 16);
        due.is("WEAK", x.told(7), 1);
        due.is("MAY", x.told(9), 0);
    }

    static void section2_may_theDeedItselfMayMakeItSafe(Due due) {
        StrikePlan x = Towers.oneBearsAll();
        x.bound(1, 5);
        due.is("SAFE", x.told(8), 0);
        due.is("MAY", x.told(9), 2);
        due.is("strike(1)", x.strike(1), 1);
        due.is("SAFE then", x.told(8), 1);
    }

    static void section2_earliest_is0_whenItMayBeNow(Due due) {
        StrikePlan x = new StrikePlan();
        x.pour();
        x.days(2);
        // 19 of 20; a DAY later 25.
        due.is("not yet", x.floor(0, 9), 1);
        x.days(1);
        due.is("now", x.floor(0, 9), 0);
    }

    /** 84 * 60 / 100 is 50: RIPE 6, which is AGE 60 for the slowest. */
    static void section2_earliest_is60_atMost(Due due) {
        StrikePlan x = Towers.of(50, 84, 1, 0);
        x.pour();
        x.slow(0, 9);
        due.is("after 60", x.floor(0, 9), 60);
    }

    /** 83 * 60 / 100 is 49: RIPE 7, AGE 70. */
    static void section2_earliest_isNone_for61(Due due) {
        StrikePlan x = Towers.of(50, 83, 1, 0);
        x.pour();
        x.slow(0, 9);
        x.days(9);
        due.is("after 61", x.floor(0, 9), NONE);
        x.days(1);
        due.is("after 60", x.floor(0, 9), 60);
    }

    static void section2_earliest_isNone_whenNeverSafe(Due due) {
        StrikePlan x = Towers.of(50, 49, 1, 0);
        x.pour();
        due.is("never", x.floor(0, 9), NONE);
    }

    /** Another floor, too weak by now, must become strong enough too. */
    static void section2_earliest_waitsForTheWholeTower(Due due) {
        StrikePlan x = Towers.lightPair(0);
        x.strike(1);
        x.pour();
        x.days(10);
        x.slow(0, 9);
        x.bound(1, 16);
        // Floor 0, AGE 30, needs RIPE 4: 10 more DAYS.
        due.is("after 10", x.floor(2, 9), 10);
    }

    static void section2_harm_is1000_whenJustStrongEnough(Due due) {
        StrikePlan x = Towers.of(20, 20, 1, 0);
        x.pour();
        x.days(9);
        due.is("18 for 20", x.floor(0, 10), 1002);
        x.days(1);
        due.is("20 for 20", x.floor(0, 10), 1000);
        due.is("strike(0)", x.strike(0), 0);
    }

    static void section2_harm_isBelow1000_whenSafe(Due due) {
        StrikePlan x = Towers.of(20, 21, 1, 0);
        x.pour();
        x.days(10);
        due.is("21 for 20", x.floor(0, 10), 999);
    }

    /** 20 each on three floors of 60, of which one is slow: it has 18, 12 or 6. */
    static void section2_harm_isOfTheLowest_ofTheMiddle_ofTheHighest(Due due) {
        int[] want = {1002, 1008, 1014};
        for (int slowest = 0; slowest <= 2; slowest++) {
            StrikePlan x = Towers.of(20, 60, 1, 0);
            for (int k = 0; k < 3; k++) {
                x.pour();
                x.days(10);
            }
            x.slow(slowest, 9);
            due.is("floor " + slowest + " is slow", x.floor(0, 10), want[slowest]);
        }
    }

    /** The greatest of all FLOORS, those of another STACK too. */
    static void section2_harm_isOfTheWorstFloorAnywhere(Due due) {
        StrikePlan x = Towers.lightPair(0);
        x.strike(1);
        x.pour();
        x.days(10);
        x.slow(0, 9);
        x.bound(1, 16);
        // Floor 0 has 4 (of 16, RIPE 3) for its 5; floors 1 and 2 have 16 for 5 each.
        due.is("floor 0 is too weak", x.floor(2, 10), 1001);
    }

    static void section2_wrong_isNone_forNoBook(Due due) {
        due.is("WRONG", Towers.lightPair(0).told(12), NONE);
    }
}
