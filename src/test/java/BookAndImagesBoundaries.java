/** Boundary cases of promises 16 to 20: the book, the seed, the images. */
final class BookAndImagesBoundaries {
    private static final int NONE = StrikePlan.NONE;
    private static final int UNKNOWN = StrikePlan.UNKNOWN;
    private static final int OUTSIDE = StrikePlan.OUTSIDE;
    private static final int NOT = StrikePlan.NOT;
    private static final int FULL = StrikePlan.FULL;
    private static final int MIN = Integer.MIN_VALUE;
    private static final int MAX = Integer.MAX_VALUE;

    private BookAndImagesBoundaries() {
    }

    // ---- promise 16: write

    static void promise16_write_noSuchFloor_isUnknown(Due due) {
        for (int i : new int[] {-1, 2, 7, 8, 32, MIN, MAX}) {
            due.refuses(() -> Towers.lightPair(0), "write(" + i + ", 5)", x -> x.write(i, 5), UNKNOWN);
        }
        due.refuses(StrikePlan::new, "no FLOORS: write(0, 0)", x -> x.write(0, 0), UNKNOWN);
    }

    static void promise16_write_20_full(Due due) {
        StrikePlan x = Towers.lightPair(0);
        for (int k = 1; k <= 20; k++) {
            due.is("write(0, 5)", x.write(0, 5), k);
        }
        due.is("the 21st", x.write(0, 5), FULL);
    }

    static void promise16_write_full_changesNothing(Due due) {
        due.refuses(BookAndImagesBoundaries::fullBook, "write(0, 6)", x -> x.write(0, 6), FULL);
        StrikePlan x = fullBook();
        x.write(0, 6);
        due.is("none is WRONG", x.told(12), NONE);
    }

    static void promise16_write_unknownIsAheadOfFull(Due due) {
        due.refuses(BookAndImagesBoundaries::fullBook, "write(2, 5)", x -> x.write(2, 5), UNKNOWN);
    }

    private static StrikePlan fullBook() {
        StrikePlan x = Towers.lightPair(0);
        for (int k = 0; k < 20; k++) {
            x.write(k % 2, 5);
        }
        return x;
    }

    /** "LOAD v, any": far beyond every LOAD, and the refusals' numbers too. */
    static void promise16_write_anyLoad(Due due) {
        int[] any = {MIN, UNKNOWN, -1, 0, 4, 6, 1005, MAX};
        for (int v : any) {
            StrikePlan x = Towers.lightPair(0);
            due.is("write(1, " + v + ")", x.write(1, v), 1);
            due.is("it is WRONG", x.told(12), 0);
        }
    }

    static void promise16_write_aLoadBelow0(Due due) {
        StrikePlan x = Towers.oneBearsAll();
        x.pour();
        x.days(1);
        x.bound(3, 0);
        x.strike(2);
        x.write(1, -2);
        due.is("right", x.told(12), NONE);
    }

    static void promise16_write_isNoDeed(Due due) {
        StrikePlan x = Towers.lightPair(0);
        x.write(0, 5);
        due.is("how many can be undone", x.told(13), 8);
        x.undo(1);
        due.is("entries", x.told(11), 1);
    }

    // ---- promise 17: tear

    static void promise17_tear_noEntries_0(Due due) {
        StrikePlan x = Towers.lightPair(0);
        due.is("tear()", x.tear(), 0);
    }

    static void promise17_tear_20(Due due) {
        StrikePlan x = fullBook();
        x.bound(1, 61);
        due.is("tear()", x.tear(), 20);
        due.is("entries", x.told(11), 0);
        due.is("WRONG", x.told(12), NONE);
        due.is("tear() again", x.tear(), 0);
    }

    static void promise17_tear_aWrongEntry_isGone(Due due) {
        StrikePlan x = Towers.lightPair(0);
        x.write(0, 99);
        due.is("WRONG", x.told(12), 0);
        x.tear();
        due.is("WRONG then", x.told(12), NONE);
        due.is("write(0, 5)", x.write(0, 5), 1);
        due.is("right", x.told(12), NONE);
    }

    static void promise17_tear_afterIt_20MoreCanBeWritten(Due due) {
        StrikePlan x = fullBook();
        x.tear();
        for (int k = 1; k <= 20; k++) {
            due.is("write(1, 5)", x.write(1, 5), k);
        }
        due.is("the 21st", x.write(1, 5), FULL);
    }

    static void promise17_tear_isNoDeed(Due due) {
        StrikePlan x = fullBook();
        x.tear();
        due.is("how many can be undone", x.told(13), 8);
        x.undo(1);
        due.is("entries", x.told(11), 0);
    }

    // ---- promise 18: seed

    static void promise18_seed_below0_isOutside(Due due) {
        for (int v : new int[] {-1, MIN}) {
            due.refuses(BookAndImagesBoundaries::seeded, "seed(" + v + ")", x -> x.seed(v), OUTSIDE);
        }
        StrikePlan x = seeded();
        x.seed(-1);
        due.is("THE SEED", x.seed(0), 4711);
    }

    private static StrikePlan seeded() {
        StrikePlan x = Towers.lightPair(0);
        x.seed(4711);
        return x;
    }

    static void promise18_seed_0AndTheGreatest_areTheEnds(Due due) {
        StrikePlan x = new StrikePlan();
        due.is("seed(2147483647)", x.seed(2147483647), 0);
        due.is("seed(0)", x.seed(0), 2147483647);
        due.is("seed(1)", x.seed(1), 0);
    }

    static void promise18_seed_isNoDeed(Due due) {
        StrikePlan x = new StrikePlan();
        x.seed(5);
        due.is("how many can be undone", x.told(13), 0);
    }

    // ---- promise 19: keep

    static void promise19_keep_noSuchImage_isUnknown(Due due) {
        for (int i : new int[] {-1, 2, MIN, MAX}) {
            due.refuses(() -> Towers.lightPair(0), "keep(" + i + ")", x -> x.keep(i), UNKNOWN);
        }
    }

    static void promise19_keep_0And1_areTheEnds(Due due) {
        StrikePlan x = Towers.lightPair(0);
        due.is("keep(0)", x.keep(0), 1);
        x.days(1);
        due.is("keep(1)", x.keep(1), 1);
        x.clear();
        x.goBack(0);
        due.is("IMAGE 0: DAY", x.told(0), 20);
        x.goBack(1);
        due.is("IMAGE 1: DAY", x.told(0), 21);
    }

    static void promise19_keep_nothingCanBeUndoneThen(Due due) {
        StrikePlan x = Towers.lightPair(0);
        due.is("ahead of it", x.told(13), 8);
        x.keep(0);
        due.is("then", x.told(13), 0);
        due.is("undo(1)", x.undo(1), NOT);
        due.is("DAY", x.told(0), 20);
    }

    static void promise19_keep_changesNothingElse(Due due) {
        StrikePlan x = Towers.lightPair(1);
        x.write(0, 5);
        x.seed(8);
        String ahead = Due.towerOf(x);
        x.keep(1);
        due.same("the tower", Due.towerOf(x), ahead);
        due.is("THE BOOK", x.told(11), 1);
        due.is("THE SEED", x.seed(0), 8);
    }

    static void promise19_keep_again_becomesWhatIsSoNow(Due due) {
        StrikePlan x = Towers.lightPair(0);
        x.keep(0);
        x.pour();
        x.seed(6);
        due.is("keep(0) again", x.keep(0), 1);
        x.clear();
        x.seed(0);
        x.goBack(0);
        due.is("FLOORS", x.told(1), 3);
        due.is("THE SEED", x.seed(0), 6);
    }

    static void promise19_keep_noFloors_andEight(Due due) {
        StrikePlan x = new StrikePlan();
        x.keep(0);
        for (int k = 0; k < 8; k++) {
            x.pour();
        }
        x.keep(1);
        x.goBack(0);
        due.is("no FLOORS", x.told(1), 0);
        due.is("floor(0, 0)", x.floor(0, 0), UNKNOWN);
        x.goBack(1);
        due.is("FLOORS", x.told(1), 8);
        due.is("pour()", x.pour(), FULL);
    }

    // ---- promise 20: goBack

    static void promise20_goBack_noSuchImage_isUnknown(Due due) {
        for (int i : new int[] {-1, 2, MIN, MAX}) {
            due.refuses(() -> Towers.lightPair(0), "goBack(" + i + ")", x -> x.goBack(i), UNKNOWN);
        }
    }

    static void promise20_goBack_notKept_isNot(Due due) {
        for (int i = 0; i <= 1; i++) {
            int image = i;
            due.refuses(() -> Towers.lightPair(0), "goBack(" + i + ")", x -> x.goBack(image), NOT);
        }
    }

    static void promise20_goBack_theOtherIsKept_isNot(Due due) {
        for (int i = 0; i <= 1; i++) {
            StrikePlan x = Towers.lightPair(0);
            x.keep(1 - i);
            x.days(1);
            due.is("goBack(" + i + ")", x.goBack(i), NOT);
            due.is("DAY", x.told(0), 21);
            due.is("how many can be undone", x.told(13), 1);
            due.is("the other", x.goBack(1 - i), 1);
        }
    }

    static void promise20_goBack_aRefusedKeep_keptNothing(Due due) {
        StrikePlan x = Towers.lightPair(0);
        x.keep(2);
        x.keep(-1);
        due.is("goBack(0)", x.goBack(0), NOT);
        due.is("goBack(1)", x.goBack(1), NOT);
    }

    static void promise20_goBack_allOfSection1_andTheSeed(Due due) {
        StrikePlan x = Towers.lightPair(2);
        x.slow(1, 3);
        x.seed(41);
        x.keep(0);
        String kept = Due.towerOf(x);
        x.bound(1, 333);
        x.bound(2, 2);
        x.bound(3, 1);
        x.clear();
        x.bound(0, 44);
        x.pour();
        x.seed(1);
        due.is("goBack(0)", x.goBack(0), 1);
        due.same("the tower", Due.towerOf(x), kept);
        due.is("THE SEED", x.seed(0), 41);
    }

    static void promise20_goBack_nothingCanBeUndoneThen(Due due) {
        StrikePlan x = Towers.lightPair(0);
        x.keep(1);
        x.days(1);
        x.goBack(1);
        due.is("told(13)", x.told(13), 0);
        due.is("undo(1)", x.undo(1), NOT);
        x.days(2);
        due.is("undo(1) of what came then", x.undo(1), 20);
    }

    static void promise20_goBack_theBookStays(Due due) {
        StrikePlan x = Towers.lightPair(0);
        x.keep(0);
        x.write(0, 6);
        x.goBack(0);
        due.is("entries", x.told(11), 1);
        x.tear();
        x.goBack(0);
        due.is("torn", x.told(11), 0);
    }

    static void promise20_goBack_twice_theImageIsAsItWas(Due due) {
        StrikePlan x = Towers.lightPair(0);
        x.keep(0);
        String kept = Due.wholeOf(x);
        x.goBack(0);
        x.strike(1);
        x.slow(1, 8);
        x.drift(5);
        due.is("goBack(0) again", x.goBack(0), 1);
        due.same("as it was kept", Due.wholeOf(x), kept);
    }

    static void promise20_goBack_ofOneImage_leavesTheOther(Due due) {
        StrikePlan x = Towers.lightPair(0);
        x.keep(0);
        x.days(5);
        x.keep(1);
        x.goBack(0);
        x.days(1);
        x.goBack(1);
        due.is("IMAGE 1: DAY", x.told(0), 25);
        x.goBack(0);
        due.is("IMAGE 0: DAY", x.told(0), 20);
    }
}
