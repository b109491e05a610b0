/** Counts the answers that are not the ones that are due. */
final class Due {
    private int checked = 0;
    private int wrong = 0;

    void is(String call, long got, long want) {
        checked++;
        if (got != want) {
            wrong++;
            System.out.println(call + " answered " + got + ", due is " + want);
        }
    }

    void holds(String what, boolean so) {
        is(what, so ? 1 : 0, 1);
    }

    /** All numbers of told() that a deed can change, and of each floor: to see that nothing was changed. */
    static String stateOf(StrikePlan x) {
        StringBuilder text = new StringBuilder();
        for (int what = 0; what <= 13; what++) {
            text.append(x.told(what)).append(' ');
        }
        for (int i = 0; i < x.told(1); i++) {
            for (int what = 0; what <= 10; what++) {
                text.append(x.floor(i, what)).append(' ');
            }
        }
        return text.toString();
    }

    void same(String what, String got, String want) {
        checked++;
        if (!got.equals(want)) {
            wrong++;
            System.out.println(what + ": " + got + ", due is " + want);
        }
    }

    void end() {
        if (wrong != 0) {
            System.out.println(wrong + " of " + checked + " are not as due");
            System.exit(1);
        }
        if (checked == 0) {
            System.out.println("nothing was checked");
            System.exit(1);
        }
    }
}
