/** Promises 16 to 20: the book, the seed, and images. */
public final class BookAndImagesTest {
    private static final int NONE = StrikePlan.NONE;
    private static final int UNKNOWN = StrikePlan.UNKNOWN;
    private static final int OUTSIDE = StrikePlan.OUTSIDE;
    private static final int NOT = StrikePlan.NOT;
    private static final int[] NO_FLOORS = {-1, 2, 8, 32, Integer.MIN_VALUE, Integer.MAX_VALUE};

    private static final Due DUE = new Due();

    public static void main(String[] args) {
        write();
        writeRefused();
        wrongIsAnEntry();
        tear();
        seed();
        keepAndGoBack();
        imagesAreCopies();
        imagesEndUndoing();
        imagesLeaveTheBook();
        imagesRefused();
        DUE.end();
    }

    private static void write() {
        StrikePlan x = Towers.lightPair(0);
        int deeds = x.told(13);
        DUE.is("write(0, 5)", x.write(0, 5), 1);
        DUE.is("write(1, 5)", x.write(1, 5), 2);
        DUE.is("none is wrong", x.told(12), NONE);
        DUE.is("write(1, MIN)", x.write(1, Integer.MIN_VALUE), 3);
        DUE.is("write(0, MAX)", x.write(0, Integer.MAX_VALUE), 4);
        DUE.is("entries", x.told(11), 4);
        DUE.is("the first that is wrong", x.told(12), 2);
        DUE.is("no deeds", x.told(13), deeds);
    }

    private static void writeRefused() {
        StrikePlan x = Towers.lightPair(0);
        for (int i : NO_FLOORS) {
            DUE.is("write(" + i + ", 5)", x.write(i, 5), UNKNOWN);
        }
        DUE.is("no entries", x.told(11), 0);
        for (int k = 1; k <= 20; k++) {
            DUE.is("entry " + k, x.write(0, 5), k);
        }
        DUE.is("the twenty-first", x.write(0, 5), StrikePlan.FULL);
        DUE.is("UNKNOWN is ahead of FULL", x.write(2, 5), UNKNOWN);
        DUE.is("twenty", x.told(11), 20);
        DUE.is("none is wrong", x.told(12), NONE);
    }

    /** The number of the entry, not of its floor; what is wrong now may be right later. */
    private static void wrongIsAnEntry() {
        StrikePlan x = Towers.lightPair(0);
        x.write(1, 5);
        x.write(1, 5);
        x.write(0, 8);
        DUE.is("entry 2 about floor 0", x.told(12), 2);
        x.pour();
        DUE.is("8, 7, 0: entry 0", x.told(12), 0);
        x.tear();
        x.write(2, 0);
        x.write(1, 7);
        x.write(0, 5);
        DUE.is("entry 2", x.told(12), 2);
        x.undo(1);
        DUE.is("floor 2 is no more", x.told(12), 0);
        x.clear();
        DUE.is("no floors", x.told(12), 0);
        DUE.is("clear() leaves the book", x.told(11), 3);
    }

    private static void tear() {
        StrikePlan x = Towers.lightPair(0);
        DUE.is("tear() of nothing", x.tear(), 0);
        x.write(0, 1);
        x.write(0, 2);
        DUE.is("tear()", x.tear(), 2);
        DUE.is("no entries", x.told(11), 0);
        DUE.is("none is wrong", x.told(12), NONE);
        DUE.is("write(1, 5)", x.write(1, 5), 1);
        DUE.is("right", x.told(12), NONE);
    }

    private static void seed() {
        StrikePlan x = new StrikePlan();
        DUE.is("seed(MAX)", x.seed(Integer.MAX_VALUE), 0);
        DUE.is("seed(-1)", x.seed(-1), OUTSIDE);
        DUE.is("seed(MIN)", x.seed(Integer.MIN_VALUE), OUTSIDE);
        DUE.is("seed(7)", x.seed(7), Integer.MAX_VALUE);
        DUE.is("seed(0)", x.seed(0), 7);
        DUE.is("no deeds", x.told(13), 0);
        x.seed(Integer.MAX_VALUE);
        x.drift(20);
        int after = x.seed(Integer.MAX_VALUE);
        long want = Integer.MAX_VALUE;
        for (int draw = 0; draw < 60; draw++) {
            want = (want * 1103515245L + 12345L) % 2147483648L;
        }
        DUE.is("sixty draws", after, want);
    }

    private static void keepAndGoBack() {
        StrikePlan x = Towers.lightPair(2);
        x.slow(1, 3);
        x.seed(41);
        DUE.is("keep(0)", x.keep(0), 1);
        String kept = Due.stateOf(x);
        x.drift(20);
        x.bound(1, 333);
        x.bound(2, 2);
        x.clear();
        x.bound(0, 44);
        x.seed(1);
        DUE.is("keep(1)", x.keep(1), 1);
        String cleared = Due.stateOf(x);
        DUE.is("goBack(0)", x.goBack(0), 1);
        DUE.same("image 0", Due.stateOf(x), kept);
        DUE.is("its seed", x.seed(2), 41);
        DUE.is("goBack(1)", x.goBack(1), 1);
        DUE.same("image 1", Due.stateOf(x), cleared);
        DUE.is("its seed too", x.seed(2), 1);
    }

    private static void imagesAreCopies() {
        StrikePlan x = Towers.lightPair(0);
        x.keep(0);
        String kept = Due.stateOf(x);
        x.pour();
        x.slow(0, 7);
        x.goBack(0);
        x.strike(1);
        x.slow(1, 8);
        x.days(4);
        x.goBack(0);
        DUE.same("the image is still as it was", Due.stateOf(x), kept);
        x.days(1);
        x.keep(0);
        x.days(1);
        x.goBack(0);
        DUE.is("kept anew", x.told(0), 21);
    }

    private static void imagesEndUndoing() {
        StrikePlan x = Towers.lightPair(0);
        DUE.holds("something can be undone", x.told(13) > 0);
        x.keep(1);
        DUE.is("nothing after keep", x.told(13), 0);
        DUE.is("undo(1)", x.undo(1), NOT);
        x.days(3);
        x.days(4);
        DUE.is("two since", x.told(13), 2);
        x.goBack(1);
        DUE.is("nothing after goBack", x.told(13), 0);
        DUE.is("undo(1) again", x.undo(1), NOT);
        x.days(9);
        DUE.is("undo(1) of the new", x.undo(1), 20);
    }

    private static void imagesLeaveTheBook() {
        StrikePlan x = Towers.lightPair(0);
        x.write(0, 5);
        x.keep(0);
        x.write(0, 6);
        x.goBack(0);
        DUE.is("two entries", x.told(11), 2);
        DUE.is("entry 1 is wrong", x.told(12), 1);
    }

    private static void imagesRefused() {
        StrikePlan x = Towers.lightPair(0);
        int deeds = x.told(13);
        int[] strange = {-1, 2, Integer.MIN_VALUE, Integer.MAX_VALUE};
        for (int i : strange) {
            DUE.is("keep(" + i + ")", x.keep(i), UNKNOWN);
            DUE.is("goBack(" + i + ")", x.goBack(i), UNKNOWN);
        }
        DUE.is("not kept: goBack(0)", x.goBack(0), NOT);
        DUE.is("not kept: goBack(1)", x.goBack(1), NOT);
        DUE.is("what is refused changes nothing", x.told(13), deeds);
        x.keep(1);
        DUE.is("the other: goBack(0)", x.goBack(0), NOT);
    }
}
