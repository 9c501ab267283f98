/** What the tests share: the answers' names, how a wrong answer is told, and some plain belts. */
abstract class Checks {
    static final int UNKNOWN = -1, OUTSIDE = -2, STATE = -3, FULL = -4, NO = -5, NONE = -6;
    static final int MIN = Integer.MIN_VALUE, MAX = Integer.MAX_VALUE;
    private static final int MOST_TOLD = 50;
    private static int asked = 0;
    private static int wrong = 0;

    static void due(String what, int got, int want) {
        asked++;
        if (got != want) {
            wrong++;
            if (wrong <= MOST_TOLD) {
                System.out.println(what + " answered " + got + ", due is " + want);
            }
        }
    }

    /** The last call of a test's main method: exit code 1 if an answer was not the one due. */
    static void end() {
        System.out.println(wrong == 0 ? "all " + asked + " answers are as due"
                : wrong + " of " + asked + " answers are not as due");
        if (wrong != 0) {
            System.exit(1);
        }
    }

    static BeltArms standing() {
        BeltArms x = new BeltArms();
        x.speed(0, 0);
        return x;
    }

    static BeltArms withChanges(int many) {
        BeltArms x = new BeltArms();
        for (int i = 1; i <= many; i++) {
            x.speed(10 * i, i);
        }
        return x;
    }

    /** So many THINGS at PLACE 0 of TICK 0, KIND 0, in LANE 0. */
    static BeltArms withThings(int many) {
        BeltArms x = new BeltArms();
        for (int i = 0; i < many; i++) {
            x.see(0, 0, 0, 0);
        }
        return x;
    }
}
