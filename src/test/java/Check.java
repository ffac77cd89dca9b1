/** Counts answers that are not as due; every test ends with {@link #end()}. */
final class Check {
    private static int asked = 0;
    private static int wrong = 0;

    private Check() {
    }

    static void same(String what, long got, long due) {
        asked++;
        if (got != due) {
            wrong++;
            System.out.println(what + " answered " + got + ", due is " + due);
        }
    }

    static void yes(String what, boolean got) {
        same(what, got ? 1 : 0, 1);
    }

    static void no(String what, boolean got) {
        same(what, got ? 1 : 0, 0);
    }

    /** register(first), register(first + 1) .. against what is due. */
    static void registers(String what, TwoWorlds x, int first, int... due) {
        for (int i = 0; i < due.length; i++) {
            same(what + ": register(" + (first + i) + ")", x.register(first + i), due[i]);
        }
    }

    /** word(first), word(first + 1) .. against what is due. */
    static void words(String what, TwoWorlds x, int first, int... due) {
        for (int i = 0; i < due.length; i++) {
            same(what + ": word(" + (first + i) + ")", x.word(first + i), due[i]);
        }
    }

    static void end() {
        System.out.println(asked + " answers, " + wrong + " not as due");
        if (wrong != 0) {
            System.exit(1);
        }
    }
}
