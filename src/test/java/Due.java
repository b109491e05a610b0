import java.util.function.Supplier;
import java.util.function.ToIntFunction;

/** Counts the answers that are not the ones that are due. */
final class Due {
    private String name = "";
    private int checked = 0;
    private int wrong = 0;

    /** What is checked from now on belongs to this case. */
    void begin(String caseName) {
        name = caseName + ": ";
    }

    int checked() {
        return checked;
    }

    void is(String call, long got, long want) {
        checked++;
        if (got != want) {
            wrong++;
            System.out.println(name + call + " answered " + got + ", due is " + want);
        }
    }

    void holds(String what, boolean so) {
        is(what, so ? 1 : 0, 1);
    }

    void same(String what, String got, String want) {
        checked++;
        if (!got.equals(want)) {
            wrong++;
            System.out.println(name + what + ": " + got + ", due is " + want);
        }
    }

    /**
     * The call is refused so, and all that can be seen of the object is as it was. Each refusal has an
     * object of its own: looking at all of it takes some hundred of the 512 calls that it is good for.
     */
    void refuses(Supplier<StrikePlan> made, String call, ToIntFunction<StrikePlan> calling, int want) {
        StrikePlan x = made.get();
        String ahead = wholeOf(x);
        is(call, calling.applyAsInt(x), want);
        same("what is refused changes nothing: " + call, wholeOf(x), ahead);
    }

    /** All numbers of told() that a deed can change, and of each floor: to see that nothing was changed. */
    static String stateOf(StrikePlan x) {
        return numbersOf(x, 13);
    }

    /** The same without the book and without how many can be undone: section 1 of the document. */
    static String towerOf(StrikePlan x) {
        return numbersOf(x, 10);
    }

    /** The same with the seed, which only another seed tells. */
    static String wholeOf(StrikePlan x) {
        int seed = x.seed(0);
        x.seed(seed);
        return stateOf(x) + seed;
    }

    private static String numbersOf(StrikePlan x, int last) {
        StringBuilder text = new StringBuilder();
        for (int what = 0; what <= last; what++) {
            text.append(x.told(what)).append(' ');
        }
        for (int i = 0; i < x.told(1); i++) {
            for (int what = 0; what <= 10; what++) {
                text.append(x.floor(i, what)).append(' ');
            }
        }
        return text.toString();
    }

    void end() {
        if (wrong != 0) {
            System.out.println(wrong + " of " + checked + " are not as due");
            System.exit(1);
        }
        if (checked == 0) {
            System.out.println("nothing was checked");
            System.exit(1);
        }
    }
}
