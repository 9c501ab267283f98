/**
 * THE PLAN held against all PLANS that there are. Four ARMS have one beat each within reach of the
 * THINGS, so which LANES each ARM has tells all that CAN be. Each way to give them LANES is tried
 * with four THINGS, and each so-manieth one with more.
 */
public final class AllPlansTest extends Checks {
    private static final int ARMS = 4;
    private static final int LANE_SETS = 1 << 16;
    private static final int MISSED = -1;

    /** Which ARM stands where along the belt. */
    private final int[] order;
    /** The LANE of each THING. */
    private final int[] lanes;
    /** The LANES of the ARM at each stand. */
    private final int[] sets = new int[ARMS];
    private final int[] stands;
    private final int[] best;
    private int most;
    private int inEach;

    private AllPlansTest(int[] order, int[] lanes) {
        this.order = order;
        this.lanes = lanes;
        this.stands = new int[lanes.length];
        this.best = new int[lanes.length];
    }

    public static void main(String[] args) {
        int[] along = {0, 1, 2, 3};
        int[] mixed = {2, 0, 3, 1};
        new AllPlansTest(along, new int[] {0, 1, 2, 3}).tryEach(1);
        new AllPlansTest(mixed, new int[] {3, 1, 0, 2, 1}).tryEach(5);
        new AllPlansTest(mixed, new int[] {0, 0, 1, 2, 3, 3}).tryEach(31);
        new AllPlansTest(along, new int[] {2, 1, 3, 0, 2, 1, 3}).tryEach(97);
        end();
    }

    private void tryEach(int step) {
        for (int all = 0; all < LANE_SETS; all += step) {
            for (int stand = 0; stand < ARMS; stand++) {
                sets[stand] = all >> 4 * stand & 15;
            }
            most = -1;
            inEach = 0;
            tryAll(0, 0, 0);
            compare("LANES " + Integer.toHexString(all), make());
        }
    }

    /** PLACE is 2t for all THINGS, so the stands are reached at TICKS 50, 100, 150, 200. */
    private BeltArms make() {
        BeltArms x = new BeltArms();
        for (int arm = 0; arm < ARMS; arm++) {
            x.reach(arm, 900 + arm, 900 + arm);
        }
        for (int stand = 0; stand < ARMS; stand++) {
            x.reach(order[stand], 100 + 100 * stand, 100 + 100 * stand);
            x.lanes(order[stand], sets[stand]);
        }
        for (int lane : lanes) {
            x.see(0, lane, 0, 0);
        }
        return x;
    }

    /** By rising stands, MISSED last: so of those that take as many the first is THE PLAN. */
    private void tryAll(int thing, int used, int taken) {
        if (thing == lanes.length) {
            weigh(taken);
            return;
        }
        for (int stand = 0; stand < ARMS; stand++) {
            if ((used >> stand & 1) == 0 && (sets[stand] >> lanes[thing] & 1) != 0) {
                stands[thing] = stand;
                tryAll(thing + 1, used | 1 << stand, taken + 1);
            }
        }
        stands[thing] = MISSED;
        tryAll(thing + 1, used, taken);
    }

    private void weigh(int taken) {
        int set = 0;
        for (int i = 0; i < stands.length; i++) {
            set |= stands[i] == MISSED ? 0 : 1 << i;
        }
        if (taken > most) {
            most = taken;
            inEach = set;
            System.arraycopy(stands, 0, best, 0, best.length);
        } else if (taken == most) {
            inEach &= set;
        }
    }

    private int mostWithout(int without, int thing, int used) {
        if (thing == lanes.length) {
            return 0;
        }
        int found = mostWithout(without, thing + 1, used);
        for (int stand = 0; stand < ARMS; stand++) {
            if (stand != without && (used >> stand & 1) == 0
                    && (sets[stand] >> lanes[thing] & 1) != 0) {
                found = Math.max(found, 1 + mostWithout(without, thing + 1, used | 1 << stand));
            }
        }
        return found;
    }

    private void compare(String text, BeltArms x) {
        int missed = 0;
        int last = NONE;
        for (int i = 0; i < best.length; i++) {
            boolean taken = best[i] != MISSED;
            missed |= taken ? 0 : 1 << i;
            last = taken ? Math.max(last, 50 + 50 * best[i]) : last;
            due(text + ": thing(" + i + ", 5)", x.thing(i, 5), taken ? 50 + 50 * best[i] : NONE);
            due(text + ": thing(" + i + ", 6)", x.thing(i, 6), taken ? order[best[i]] : NONE);
        }
        due(text + ": plan(0)", x.plan(0), most);
        due(text + ": plan(1)", x.plan(1), best.length - most);
        due(text + ": plan(2)", x.plan(2), last);
        due(text + ": plan(3)", x.plan(3), missed);
        due(text + ": plan(4)", x.plan(4), inEach);
        for (int stand = 0; stand < ARMS; stand++) {
            compareArm(text, x, stand);
        }
    }

    private void compareArm(String text, BeltArms x, int stand) {
        int arm = order[stand];
        int takes = NONE;
        for (int i = 0; i < best.length; i++) {
            takes = best[i] == stand ? i : takes;
        }
        due(text + ": takes(" + arm + ")", x.takes(arm, 50 + 50 * stand), takes);
        due(text + ": arm(" + arm + ", 5)", x.arm(arm, 5), takes == NONE ? 0 : 1);
        due(text + ": arm(" + arm + ", 6)", x.arm(arm, 6), most - mostWithout(stand, 0, 0));
    }
}
