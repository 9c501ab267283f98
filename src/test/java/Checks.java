/** What the tests by hand share: the answers' names, and how a wrong answer is told. */
abstract class Checks {
    static final int UNKNOWN = -1, OUTSIDE = -2, STATE = -3, FULL = -4, NO = -5, NONE = -6;
    private static int asked = 0;
    private static int wrong = 0;

    static void due(String what, int got, int want) {
        asked++;
        if (got != want) {
            wrong++;
            System.out.println(what + " answered " + got + ", due is " + want);
        }
    }

    /** The last call of a test's main method: exit code 1 if an answer was not the one due. */
    static void end() {
        System.out.println(wrong == 0 ? "all " + asked + " answers are as due"
                : wrong + " of " + asked + " answers are not as due");
        if (wrong != 0) {
            System.exit(1);
        }
    }
}
