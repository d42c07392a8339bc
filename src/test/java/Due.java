/** Collects the calls whose answers are not the ones that are due. */
final class Due {
    private static int asked;
    private static int wrong;

    private Due() {
    }

    static void is(String call, long got, long want) {
        asked++;
        if (got != want) {
            wrong++;
            System.out.println(call + " answered " + got + ", due is " + want);
        }
    }

    static void holds(String what, boolean truth) {
        asked++;
        if (!truth) {
            wrong++;
            System.out.println("does not hold: " + what);
        }
    }

    /** The last call of every test: an exit code of 1 if an answer was wrong, or none was asked for. */
    static void finish(String test) {
        System.out.println(test + ": " + asked + " answers, " + wrong + " wrong");
        if (wrong != 0 || asked == 0) {
            System.exit(1);
        }
    }
}
