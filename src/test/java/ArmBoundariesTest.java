/**
 * Boundaries of ARMS, and what they CAN take (the document's section 2):
 * each sentence that names one has a test of its own.
 */
public final class ArmBoundariesTest extends Checks {
    public static void main(String[] args) {
        arms();
        canTake();
        end();
    }

    // ======== 2: ARMS

    private static void arms() {
        armsAre0To3();
        armsAtFirst();
        fromAndTillAre0To999();
        fromIsNoGreaterThanTill();
        noPlaceIsReachedByTwo();
        lanesAreASetOfFour();
        beatIs1To20();
        offIs0ToBeatLess1();
    }

    private static void armsAre0To3() {
        BeltArms x = withThings(1);
        for (int arm = 0; arm <= 3; arm++) {
            due("ARM " + arm + ": reach", x.reach(arm, 100 + 100 * arm, 160 + 100 * arm), 1);
            due("ARM " + arm + ": beat", x.beat(arm, 5, 0), 1);
            due("ARM " + arm + ": lanes", x.lanes(arm, 15), 15);
            due("ARM " + arm + ": arm", x.arm(arm, 2), 5);
            due("ARM " + arm + ": can", x.can(arm, 0, 50 + 50 * arm), 1);
            due("ARM " + arm + ": takes", x.takes(arm, 50), arm == 0 ? 0 : NONE);
        }
        for (int bad : new int[] {MIN, -4, -1, 4, 5, MAX}) {
            due("ARM " + bad + ": reach", x.reach(bad, 900, 900), UNKNOWN);
            due("ARM " + bad + ": beat", x.beat(bad, 5, 0), UNKNOWN);
            due("ARM " + bad + ": lanes", x.lanes(bad, 15), UNKNOWN);
            due("ARM " + bad + ": arm", x.arm(bad, 2), UNKNOWN);
            due("ARM " + bad + ": can", x.can(bad, 0, 50), UNKNOWN);
            due("ARM " + bad + ": takes", x.takes(bad, 50), UNKNOWN);
        }
    }

    private static void armsAtFirst() {
        int[][] want = {{100, 160, 5, 0, 15, 0, 0}, {200, 260, 5, 0, 15, 0, 0},
            {300, 360, 5, 0, 15, 0, 0}, {400, 460, 5, 0, 15, 0, 0}};
        BeltArms x = new BeltArms();
        for (int arm = 0; arm <= 3; arm++) {
            for (int what = 0; what <= 6; what++) {
                due("at first: arm(" + arm + ", " + what + ")", x.arm(arm, what), want[arm][what]);
            }
        }
    }

    private static void fromAndTillAre0To999() {
        BeltArms x = new BeltArms();
        due("FROM 0", x.reach(0, 0, 99), 1);
        due("FROM is 0", x.arm(0, 0), 0);
        due("TILL 999", x.reach(3, 998, 999), 1);
        due("TILL is 999", x.arm(3, 1), 999);
        due("FROM and TILL 999", x.reach(3, 999, 999), 1);
        due("FROM and TILL 0", x.reach(0, 0, 0), 1);
        for (int bad : new int[] {MIN, -999, -1, 1000, 1001, MAX}) {
            due("FROM " + bad, x.reach(0, bad, 50), OUTSIDE);
            due("FROM " + bad + ", TILL 999", x.reach(3, bad, 999), OUTSIDE);
            due("TILL " + bad, x.reach(3, 950, bad), OUTSIDE);
            due("TILL " + bad + ", FROM 0", x.reach(0, 0, bad), OUTSIDE);
            due("FROM and TILL " + bad, x.reach(0, bad, bad), OUTSIDE);
        }
        due("FROM and TILL far off", x.reach(0, MIN, MAX), OUTSIDE);
        due("FROM and TILL far off, the other way", x.reach(0, MAX, MIN), OUTSIDE);
        for (int arm = 1; arm <= 3; arm++) {
            x.reach(arm, 999 - arm, 999 - arm);
        }
        x.reach(0, 0, 0);
        due("an ARM alone", x.reach(0, 0, 995), 1);
    }

    private static void fromIsNoGreaterThanTill() {
        BeltArms x = new BeltArms();
        due("FROM is TILL", x.reach(0, 50, 50), 1);
        due("FROM is 1 less", x.reach(0, 50, 51), 1);
        due("FROM is 1 greater", x.reach(0, 51, 50), OUTSIDE);
        due("FROM is 999, TILL is 0", x.reach(0, 999, 0), OUTSIDE);
        due("it is as it was", x.arm(0, 0), 50);
        due("it is as it was", x.arm(0, 1), 51);
    }

    private static void noPlaceIsReachedByTwo() {
        due("next to the one before", new BeltArms().reach(1, 161, 260), 1);
        due("on TILL of the one before", new BeltArms().reach(1, 160, 260), NO);
        due("next to the one behind", new BeltArms().reach(1, 200, 299), 1);
        due("on FROM of the one behind", new BeltArms().reach(1, 200, 300), NO);
        due("between two", new BeltArms().reach(1, 161, 299), 1);
        due("just another's FROM", new BeltArms().reach(1, 400, 400), NO);
        due("just another's TILL", new BeltArms().reach(1, 460, 460), NO);
        due("just before another's FROM", new BeltArms().reach(1, 399, 399), 1);
        due("just behind another's TILL", new BeltArms().reach(1, 461, 461), 1);
        due("within another", new BeltArms().reach(1, 420, 430), NO);
        due("around another", new BeltArms().reach(1, 361, 999), NO);
        due("the same as another", new BeltArms().reach(1, 300, 360), NO);
        due("around all", new BeltArms().reach(1, 0, 999), NO);
        due("its own PLACES", new BeltArms().reach(1, 200, 260), 1);
        due("some of its own PLACES", new BeltArms().reach(1, 230, 299), 1);
        due("ARM 0 behind all others", new BeltArms().reach(0, 461, 999), 1);
        due("ARM 3 before all others", new BeltArms().reach(3, 0, 99), 1);
        for (int other = 0; other <= 3; other++) {
            for (int arm = 0; arm <= 3; arm++) {
                BeltArms x = new BeltArms();
                x.lanes(arm, 0);
                x.lanes(other, 0);
                int place = 160 + 100 * other;
                due("no LANES: ARM " + arm + " on ARM " + other, x.reach(arm, place, place),
                        arm == other ? 1 : NO);
            }
        }
        BeltArms x = new BeltArms();
        due("a PLACE that is left", x.reach(1, 261, 299), 1);
        due("is free for another", x.reach(0, 200, 260), 1);
        due("and so is that one's", x.reach(1, 100, 160), 1);
    }

    private static void lanesAreASetOfFour() {
        BeltArms x = new BeltArms();
        due("LANES 0", x.lanes(2, 0), 15);
        due("LANES 1", x.lanes(2, 1), 0);
        due("LANES 8", x.lanes(2, 8), 1);
        due("LANES 15", x.lanes(2, 15), 8);
        for (int bad : new int[] {MIN, -15, -1, 16, 17, 31, MAX}) {
            due("LANES " + bad, x.lanes(2, bad), OUTSIDE);
        }
        due("LANES are 15", x.arm(2, 4), 15);
        for (int set = 0; set <= 15; set++) {
            x.lanes(2, set);
            due("LANES are " + set, x.arm(2, 4), set);
            due("LANES of another", x.arm(1, 4), 15);
        }
    }

    private static void beatIs1To20() {
        BeltArms x = new BeltArms();
        due("BEAT 1", x.beat(0, 1, 0), 1);
        due("BEAT is 1", x.arm(0, 2), 1);
        due("BEAT 20", x.beat(0, 20, 0), 1);
        due("BEAT is 20", x.arm(0, 2), 20);
        for (int bad : new int[] {MIN, MIN + 1, -20, -1, 0, 21, 22, MAX}) {
            due("BEAT " + bad, x.beat(0, bad, 0), OUTSIDE);
        }
        due("BEAT is 20 still", x.arm(0, 2), 20);
        due("BEAT of another", x.arm(1, 2), 5);
    }

    private static void offIs0ToBeatLess1() {
        BeltArms x = new BeltArms();
        for (int beat = 1; beat <= 20; beat++) {
            due("OFF 0 of " + beat, x.beat(0, beat, 0), 1);
            due("OFF -1 of " + beat, x.beat(0, beat, -1), OUTSIDE);
            due("OFF " + beat + " of " + beat, x.beat(0, beat, beat), OUTSIDE);
            due("OFF is 0 still", x.arm(0, 3), 0);
            due("OFF " + (beat - 1) + " of " + beat, x.beat(0, beat, beat - 1), 1);
            due("OFF is the greatest", x.arm(0, 3), beat - 1);
        }
        due("OFF far off", x.beat(0, 20, MIN), OUTSIDE);
        due("OFF far off", x.beat(0, 20, MAX), OUTSIDE);
        due("a lesser BEAT with the OFF that was", x.beat(0, 19, 19), OUTSIDE);
        due("the BEAT that was", x.arm(0, 2), 20);
        due("OFF of another", x.arm(1, 3), 0);
    }

    // ======== 2: CAN

    private static void canTake() {
        beatDividesTickLessOff();
        theTickIsGreaterThanItsTick();
        itsLaneIsOfItsLanes();
        fromAndTillAreReached();
        chancesOfThings();
        firstAndLastAtEachTick();
    }

    /** A belt that stands, a THING at PLACE 30, SEEN at a TICK, and ARM 2 over it. */
    private static BeltArms underArm2(int tick, int beat, int off) {
        BeltArms x = standing();
        x.reach(2, 30, 30);
        x.beat(2, beat, off);
        x.see(tick, 0, 30, 0);
        return x;
    }

    private static void beatDividesTickLessOff() {
        BeltArms x = underArm2(0, 20, 19);
        for (int tick = 0; tick <= 300; tick++) {
            int want = tick % 20 == 19 ? 1 : 0;
            due("BEAT 20, OFF 19: TICK " + tick, x.can(2, 0, tick), want);
        }
        due("BEAT 20, OFF 19: the first", x.thing(0, 8), 19);
        due("BEAT 20, OFF 19: the last", x.thing(0, 9), 299);
        due("BEAT 20, OFF 19: all", x.thing(0, 10), 15);
        x.beat(2, 20, 1);
        due("BEAT 20, OFF 1: the first", x.thing(0, 8), 1);
        due("BEAT 20, OFF 1: the last", x.thing(0, 9), 281);
        due("BEAT 20, OFF 1: all", x.thing(0, 10), 15);
        BeltArms y = underArm2(0, 1, 0);
        for (int tick = 1; tick <= 300; tick++) {
            due("BEAT 1: TICK " + tick, y.can(2, 0, tick), 1);
        }
        BeltArms z = underArm2(0, 20, 0);
        due("BEAT 20: TICK 20", z.can(2, 0, 20), 1);
        due("BEAT 20: TICK 21", z.can(2, 0, 21), 0);
        due("BEAT 20: TICK 280", z.can(2, 0, 280), 1);
        due("BEAT 20: TICK 299", z.can(2, 0, 299), 0);
        due("BEAT 20: TICK 300", z.can(2, 0, 300), 1);
        z.beat(2, 7, 3);
        due("less than OFF", z.can(2, 0, 1), 0);
        due("OFF itself", z.can(2, 0, 3), 1);
        due("OFF and BEAT", z.can(2, 0, 10), 1);
        due("BEAT", z.can(2, 0, 7), 0);
        due("OFF less 1 and BEAT", z.can(2, 0, 9), 0);
    }

    private static void theTickIsGreaterThanItsTick() {
        for (int tick : new int[] {0, 1, 150, 298, 299}) {
            BeltArms x = underArm2(tick, 1, 0);
            due("its own TICK " + tick, x.can(2, 0, tick), 0);
            due("the next TICK", x.can(2, 0, tick + 1), 1);
            due("the TICK before", x.can(2, 0, Math.max(0, tick - 1)), 0);
            due("the last TICK", x.can(2, 0, 300), 1);
        }
        BeltArms x = underArm2(300, 1, 0);
        due("TICK 300: its own", x.can(2, 0, 300), 0);
        due("TICK 300: one before", x.can(2, 0, 299), 0);
        due("TICK 300: none at all", x.thing(0, 10), 0);
        BeltArms y = underArm2(100, 1, 0);
        y.see(50, 0, 30, 0);
        due("SEEN earlier too: the TICK by which it came counts", y.can(2, 0, 100), 0);
        due("SEEN earlier too: the TICK by which it came counts", y.thing(0, 8), 101);
        y.see(150, 0, 30, 0);
        due("SEEN later too", y.can(2, 0, 101), 1);
    }

    private static void itsLaneIsOfItsLanes() {
        for (int lane = 0; lane <= 3; lane++) {
            for (int set = 0; set <= 15; set++) {
                BeltArms x = standing();
                x.reach(2, 30, 30);
                x.lanes(2, set);
                x.see(0, lane, 30, 0);
                int want = set >> lane & 1;
                due("LANE " + lane + " of " + set, x.can(2, 0, 5), want);
                due("LANE " + lane + " of " + set + ": plan", x.plan(0), want);
                due("LANE " + lane + " of " + set + ": first", x.thing(0, 8), want == 1 ? 5 : NONE);
                due("LANE " + lane + " of " + set + ": last", x.thing(0, 9), want == 1 ? 300 : NONE);
                due("LANE " + lane + " of " + set + ": all", x.thing(0, 10), 60 * want);
            }
        }
    }

    private static void fromAndTillAreReached() {
        BeltArms x = new BeltArms();
        x.speed(0, 1);
        x.beat(1, 1, 0);
        x.see(0, 0, 0, 0);
        due("FROM less 1", x.can(1, 0, 199), 0);
        due("FROM", x.can(1, 0, 200), 1);
        due("TILL", x.can(1, 0, 260), 1);
        due("TILL and 1", x.can(1, 0, 261), 0);
        x.reach(1, 230, 230);
        due("one PLACE: before", x.can(1, 0, 229), 0);
        due("one PLACE", x.can(1, 0, 230), 1);
        due("one PLACE: behind", x.can(1, 0, 231), 0);
        x.speed(0, 9);
        due("one PLACE is stepped over: 225", x.can(1, 0, 25), 0);
        due("one PLACE is stepped over: 234", x.can(1, 0, 26), 0);
        x.reach(0, 0, 0);
        x.beat(0, 1, 0);
        due("PLACE 0 at its own TICK only", x.can(0, 0, 0), 0);
        due("PLACE 0 is left at once", x.can(0, 0, 1), 0);
        x.reach(3, 999, 999);
        x.beat(3, 1, 0);
        due("PLACE 999", x.can(3, 0, 111), 1);
        due("PLACE 990", x.can(3, 0, 110), 0);
        due("PLACE 1008", x.can(3, 0, 112), 0);
        BeltArms y = new BeltArms();
        y.reach(0, 0, 99);
        y.see(100, 0, 0, 0);
        due("PLACE below 0", y.can(0, 0, 95), 0);
        due("a PLACE of FROM to TILL, too early", y.can(0, 0, 100), 0);
        due("a PLACE of FROM to TILL", y.can(0, 0, 105), 1);
    }

    /** The first and the last TICK, and how many: across ARMS that stand in another order. */
    private static void chancesOfThings() {
        BeltArms x = new BeltArms();
        x.reach(0, 500, 560);
        x.see(0, 0, 0, 0);
        // PLACE is 2t: ARM 1 100 to 130, ARM 2 150 to 180, ARM 3 200 to 230, ARM 0 250 to 280
        due("the first is by ARM 1", x.thing(0, 8), 100);
        due("the last is by ARM 0", x.thing(0, 9), 280);
        due("seven by each", x.thing(0, 10), 28);
        x.reach(0, 600, 600);
        due("the last is TICK 300", x.thing(0, 9), 300);
        due("one by ARM 0", x.thing(0, 10), 22);
        x.reach(0, 601, 601);
        due("never reached", x.thing(0, 9), 230);
        due("none by ARM 0", x.thing(0, 10), 21);
        BeltArms y = standing();
        y.reach(0, 30, 30);
        y.beat(0, 1, 0);
        y.see(0, 0, 30, 0);
        y.see(0, 0, 20, 0);
        due("as many as there can be", y.thing(0, 10), 300);
        due("none at all: first", y.thing(1, 8), NONE);
        due("none at all: last", y.thing(1, 9), NONE);
        due("none at all: 0, not NONE", y.thing(1, 10), 0);
        y.see(299, 1, 30, 0);
        due("just one: first", y.thing(2, 8), 300);
        due("just one: last", y.thing(2, 9), 300);
        due("just one", y.thing(2, 10), 1);
        y.speed(300, 9);
        due("a CHANGE at 300 moves nothing", y.thing(0, 9), 300);
        y.speed(299, 9);
        due("a CHANGE at 299: TICK 300 is lost", y.thing(0, 9), 299);
    }

    /** PLACE is t, and ARM 0 reaches one PLACE alone: so there is one TICK, whichever it is. */
    private static void firstAndLastAtEachTick() {
        for (int tick = 1; tick <= 300; tick++) {
            BeltArms x = new BeltArms();
            x.speed(0, 1);
            x.see(0, 0, 0, 0);
            for (int arm = 1; arm <= 3; arm++) {
                x.reach(arm, 900 + arm, 900 + arm);
            }
            x.reach(0, tick, tick);
            x.beat(0, 1, 0);
            due("TICK " + tick + " is the first", x.thing(0, 8), tick);
            due("TICK " + tick + " is the last", x.thing(0, 9), tick);
            due("TICK " + tick + " is the only one", x.thing(0, 10), 1);
            due("TICK " + tick + " is THE PLAN's", x.thing(0, 5), tick);
        }
    }
}
