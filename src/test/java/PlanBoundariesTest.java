/**
 * Boundaries of THE PLAN and the TRAYS (the document's sections 2 and 3):
 * each sentence that names one has a test of its own.
 */
public final class PlanBoundariesTest extends Checks {
    public static void main(String[] args) {
        thePlan();
        trays();
        end();
    }

    // ======== 2: THE PLAN

    private static void thePlan() {
        noThingAtAll();
        noneCanBeTaken();
        allTwentyAreTaken();
        oneBeatForTwenty();
        noArmTakesTwoAtOneTick();
        twoArmsTakeAtOneTick();
        mostComesFirst();
        earlyThingsComeFirst();
        theLeastTickComesFirst();
        anEarlyThingDisplacesALaterOne();
        aMissedThingLetsAnotherWait();
        twentyMoveUp();
        neededOnes();
        armsThatCouldBeSpared();
    }

    private static void noThingAtAll() {
        BeltArms x = new BeltArms();
        int[] want = {0, 0, NONE, 0, 0};
        for (int what = 0; what <= 4; what++) {
            due("no THING: plan(" + what + ")", x.plan(what), want[what]);
        }
        for (int arm = 0; arm <= 3; arm++) {
            due("no THING: ARM " + arm + " takes none", x.arm(arm, 5), 0);
            due("no THING: ARM " + arm + " can be spared", x.arm(arm, 6), 0);
            due("no THING: at TICK 50", x.takes(arm, 50), NONE);
        }
        due("no THING: a TRAY", x.tray(0, 0), 0);
    }

    private static void noneCanBeTaken() {
        BeltArms x = withThings(20);
        x.speed(0, 0);
        int[] want = {0, 20, NONE, (1 << 20) - 1, 0};
        for (int what = 0; what <= 4; what++) {
            due("all MISSED: plan(" + what + ")", x.plan(what), want[what]);
        }
        for (int what = 5; what <= 9; what++) {
            due("all MISSED: thing(19, " + what + ")", x.thing(19, what), NONE);
        }
        due("all MISSED: ARM 0 can be spared", x.arm(0, 6), 0);
        due("all MISSED: nothing is laid", x.tray(0, 0), 0);
    }

    /** ARM 3 alone has as many beats as there are THINGS, no more. */
    private static BeltArms twentyBeats(int beats) {
        BeltArms x = standing();
        x.reach(3, 30, 30);
        x.beat(3, 1, 0);
        for (int i = 0; i < 20; i++) {
            x.see(300 - beats, 0, 30, i % 3);
        }
        return x;
    }

    private static void allTwentyAreTaken() {
        BeltArms x = twentyBeats(20);
        int[] want = {20, 0, 300, 0, (1 << 20) - 1};
        for (int what = 0; what <= 4; what++) {
            due("20 beats: plan(" + what + ")", x.plan(what), want[what]);
        }
        for (int i = 0; i < 20; i++) {
            due("20 beats: THING " + i, x.thing(i, 5), 281 + i);
            due("20 beats: taken at " + (281 + i), x.takes(3, 281 + i), i);
        }
        due("20 beats: all by ARM 3", x.arm(3, 5), 20);
        due("20 beats: all by ARM 3", x.arm(3, 6), 20);
        BeltArms y = twentyBeats(21);
        due("21 beats: the last is not needed", y.plan(2), 299);
        due("21 beats: none at 300", y.takes(3, 300), NONE);
        BeltArms z = twentyBeats(19);
        due("19 beats: plan(0)", z.plan(0), 19);
        due("19 beats: the last THING is MISSED", z.plan(3), 1 << 19);
        due("19 beats: any could be", z.plan(4), 0);
        due("19 beats: MISSED, though it CAN be taken", z.thing(19, 5), NONE);
        due("19 beats: first", z.thing(19, 8), 282);
        due("19 beats: last", z.thing(19, 9), 300);
        due("19 beats: as many", z.thing(19, 10), 19);
    }

    private static void oneBeatForTwenty() {
        BeltArms x = twentyBeats(1);
        due("one beat: plan(0)", x.plan(0), 1);
        due("one beat: plan(1)", x.plan(1), 19);
        due("one beat: plan(2)", x.plan(2), 300);
        due("one beat: THING 0 has it", x.plan(3), (1 << 20) - 2);
        due("one beat: any could have it", x.plan(4), 0);
        x.drop(0);
        due("one beat: who is THING 0 now has it", x.takes(3, 300), 0);
        for (int left = 18; left >= 1; left--) {
            x.drop(left);
        }
        due("one beat, one THING: it is in each PLAN", x.plan(4), 1);
        due("one beat, one THING: none is MISSED", x.plan(3), 0);
        BeltArms y = twentyBeats(0);
        due("no beat: plan(0)", y.plan(0), 0);
        due("no beat: plan(2)", y.plan(2), NONE);
    }

    private static void noArmTakesTwoAtOneTick() {
        BeltArms x = standing();
        x.reach(1, 30, 31);
        x.beat(1, 20, 0);
        x.see(280, 0, 30, 0);
        x.see(280, 1, 31, 1);
        due("both CAN be taken at 300", x.can(1, 0, 300) + x.can(1, 1, 300), 2);
        due("one is taken", x.plan(0), 1);
        due("it is THING 0", x.takes(1, 300), 0);
        due("THING 1 is MISSED", x.plan(3), 2);
        x.beat(1, 10, 0);
        due("another beat: both", x.plan(0), 2);
        due("another beat", x.takes(1, 290), 0);
        due("another beat", x.takes(1, 300), 1);
    }

    private static void twoArmsTakeAtOneTick() {
        BeltArms x = standing();
        for (int arm = 0; arm <= 3; arm++) {
            x.reach(arm, 10 * arm, 10 * arm);
            x.beat(arm, 20, 0);
        }
        for (int arm = 3; arm >= 0; arm--) {
            x.see(299, 0, 10 * arm, 0);
        }
        due("four ARMS at one TICK", x.plan(0), 4);
        for (int arm = 0; arm <= 3; arm++) {
            due("ARM " + arm + " at 300", x.takes(arm, 300), 3 - arm);
            due("ARM " + arm + " is needed", x.arm(arm, 6), 1);
            due("by ARM " + arm, x.thing(3 - arm, 6), arm);
        }
    }

    /** One ARM with a beat of 20 over a belt of SPEED 2: PLACES 100 to TILL. */
    private static BeltArms oneArm(int till) {
        BeltArms x = new BeltArms();
        x.lanes(1, 0);
        x.lanes(2, 0);
        x.lanes(3, 0);
        x.beat(0, 20, 0);
        x.reach(0, 100, till);
        return x;
    }

    private static void mostComesFirst() {
        BeltArms x = oneArm(145);
        x.see(0, 0, 20, 0);
        x.see(0, 1, 30, 0);
        // THING 0: 100 at 40, 140 at 60; THING 1: 110 at 40 alone
        due("THING 0 waits, as two are more than one", x.thing(0, 5), 60);
        due("THING 1 has its only beat", x.thing(1, 5), 40);
        checkTicks("both", x, 60, 40);
        x.reach(0, 100, 139);
        due("TILL is 1 too little: one beat for two", x.plan(0), 1);
        due("THING 0 does not wait", x.thing(0, 5), 40);
        due("THING 1 is MISSED", x.thing(1, 5), NONE);
        x.reach(0, 100, 140);
        due("TILL is just enough", x.plan(0), 2);
    }

    private static void earlyThingsComeFirst() {
        BeltArms x = oneArm(139);
        x.see(0, 0, 30, 0);
        x.see(0, 1, 20, 0);
        x.see(40, 2, 60, 0);
        // THINGS 0 and 1 have 40 alone, THING 2 has 60 (100)
        due("THING 0 before THING 1", x.takes(0, 40), 0);
        due("THING 2 is in no one's way", x.takes(0, 60), 2);
        due("THING 1 is MISSED", x.plan(3), 2);
        due("THING 2 is in each PLAN", x.plan(4), 4);
        x.drop(0);
        due("THING 1 is THING 0 now", x.takes(0, 40), 0);
        due("all are taken", x.plan(3), 0);
        due("all are needed", x.plan(4), 3);
    }

    private static void theLeastTickComesFirst() {
        BeltArms x = oneArm(145);
        x.see(0, 0, 20, 0);
        due("one THING, two beats: the first", x.thing(0, 5), 40);
        due("the other beat stays free", x.takes(0, 60), NONE);
        x.lanes(1, 15);
        x.beat(1, 20, 15);
        due("an ARM farther on changes nothing", x.thing(0, 5), 40);
        BeltArms y = new BeltArms();
        y.reach(0, 461, 500);
        y.see(0, 0, 0, 0);
        due("the least TICK, not the least ARM", y.thing(0, 6), 1);
        due("the least TICK, not the least ARM", y.thing(0, 5), 100);
    }

    /** Each ARM has one beat, at TICKS 50, 100, 150, 200, for the LANES told; THINGS in LANES told. */
    private static BeltArms oneBeatEach(int[] sets, int[] lanes) {
        BeltArms x = new BeltArms();
        for (int arm = 0; arm <= 3; arm++) {
            x.reach(arm, 100 + 100 * arm, 100 + 100 * arm);
            x.lanes(arm, sets[arm]);
        }
        for (int lane : lanes) {
            x.see(0, lane, 0, 0);
        }
        return x;
    }

    private static void checkTicks(String text, BeltArms x, int... ticks) {
        for (int i = 0; i < ticks.length; i++) {
            due(text + ": THING " + i, x.thing(i, 5), ticks[i]);
            if (ticks[i] != NONE) {
                due(text + ": at " + ticks[i], x.takes(x.thing(i, 6), ticks[i]), i);
            }
        }
    }

    /** THINGS 0 to 3 have 50 or 150; 50; 100 or 150; 100: three of them can be taken. */
    private static void anEarlyThingDisplacesALaterOne() {
        BeltArms x = oneBeatEach(new int[] {3, 12, 5, 0}, new int[] {0, 1, 2, 3});
        checkTicks("THING 0 first", x, 50, NONE, 150, 100);
        due("three are taken", x.plan(0), 3);
        due("each could be MISSED", x.plan(4), 0);
        BeltArms y = oneBeatEach(new int[] {3, 12, 5, 0}, new int[] {0, 2, 1, 3});
        checkTicks("THING 0 first, THING 1 waits", y, 50, 150, NONE, 100);
        BeltArms z = oneBeatEach(new int[] {3, 12, 5, 0}, new int[] {3, 2, 1, 0});
        checkTicks("the other way about", z, 100, 150, 50, NONE);
    }

    /** Which of two is MISSED tells when others are taken. */
    private static void aMissedThingLetsAnotherWait() {
        BeltArms x = oneBeatEach(new int[] {1, 3, 2, 0}, new int[] {1, 0, 0, 1});
        // LANE 1 has 100, 150; LANE 0 has 50, 100
        checkTicks("THING 0 at 100", x, 100, 50, NONE, 150);
        x.drop(3);
        checkTicks("THING 0 waits for THING 2", x, 150, 50, 100);
        due("all are taken", x.plan(4), 7);
        x.drop(2);
        checkTicks("THING 0 need not wait", x, 100, 50);
    }

    /** THINGS 0 to 18 have two beats each, one after the other; the last has just the first one. */
    private static void twentyMoveUp() {
        BeltArms x = oneArm(100);
        x.speed(0, 1);
        x.reach(0, 35, 54);
        x.beat(0, 10, 0);
        int[] ticks = new int[20];
        for (int i = 0; i < 19; i++) {
            x.see(10 * i, 0, 0, 0);
        }
        due("nineteen have their first beats", x.plan(0), 19);
        due("the last of them", x.thing(18, 5), 220);
        x.see(30, 0, 40, 0);
        for (int i = 0; i < 19; i++) {
            ticks[i] = 50 + 10 * i;
        }
        ticks[19] = 40;
        due("one more, with the first beat alone", x.thing(19, 10), 1);
        due("all are taken", x.plan(0), 20);
        due("all are needed", x.plan(4), (1 << 20) - 1);
        checkTicks("all the others wait", x, ticks);
    }

    private static void neededOnes() {
        BeltArms x = oneArm(145);
        x.see(0, 0, 20, 0);
        x.see(0, 1, 30, 0);
        x.see(20, 2, 50, 0);
        // THING 0: 40, 60; THING 1: 40; THING 2: PLACE 10 + 2t: 60 (130)
        due("three for two beats", x.plan(0), 2);
        due("any of them can be MISSED", x.plan(4), 0);
        due("THING 0 first", x.thing(0, 5), 40);
        due("THING 1 is MISSED", x.plan(3), 2);
        x.see(200, 3, 10, 0);
        due("a fourth, by itself", x.thing(3, 10), 1);
        due("it is in each PLAN", x.plan(4), 8);
        x.drop(1);
        due("enough for all", x.plan(4), 7);
    }

    private static void armsThatCouldBeSpared() {
        BeltArms x = withThings(7);
        due("seven THINGS, seven beats each: ARM 0 takes all", x.arm(0, 5), 7);
        due("it can be spared all the same", x.arm(0, 6), 0);
        for (int arm = 1; arm <= 3; arm++) {
            x.lanes(arm, 0);
            due("ARM " + arm + " takes none", x.arm(arm, 5), 0);
            due("ARM " + arm + " can be spared", x.arm(arm, 6), 0);
        }
        due("ARM 0 is the only one", x.arm(0, 6), 7);
        x.see(0, 0, 0, 0);
        due("an eighth is MISSED", x.plan(1), 1);
        due("an eighth is MISSED with it or without it", x.arm(0, 6), 7);
        x.lanes(1, 1);
        due("ARM 1 takes the eighth", x.arm(1, 5), 1);
        due("without ARM 1 one is MISSED", x.arm(1, 6), 1);
        due("without ARM 0 one is MISSED", x.arm(0, 6), 1);
        due("asking changes nothing", x.plan(0), 8);
        due("asking changes nothing", x.arm(0, 5), 7);
    }

    // ======== 3: TRAYS

    private static void trays() {
        shareIs1To6();
        shareIs2AtFirst();
        traysAreForKinds();
        laidByRisingTicks();
        laidByRisingArms();
        fewestThenLeast();
        missedOnesAreNotLaid();
    }

    private static void shareIs1To6() {
        BeltArms x = new BeltArms();
        due("SHARE 6", x.set(1, 6), 2);
        due("SHARE 1", x.set(1, 1), 6);
        for (int bad : new int[] {MIN, -1, 0, 7, 8, MAX}) {
            due("SHARE " + bad, x.set(1, bad), OUTSIDE);
        }
        due("SHARE is 1", x.count(3), 1);
        for (int share = 1; share <= 6; share++) {
            x.set(1, share);
            for (int kind = 0; kind <= 2; kind++) {
                due("SHARE " + share + ": PART 0", x.tray(kind, 0), 0);
                due("SHARE " + share + ": the last PART", x.tray(kind, share - 1), 0);
                due("SHARE " + share + ": one more", x.tray(kind, share), OUTSIDE);
                due("SHARE " + share + ": PART -1", x.tray(kind, -1), OUTSIDE);
            }
        }
        due("PART far off", x.tray(0, MIN), OUTSIDE);
        due("PART far off", x.tray(0, MAX), OUTSIDE);
    }

    private static void shareIs2AtFirst() {
        BeltArms x = withThings(3);
        due("SHARE at first", x.count(3), 2);
        due("PART 0 at first", x.tray(0, 0), 2);
        due("PART 1 at first", x.tray(0, 1), 1);
        due("PART 2 at first", x.tray(0, 2), OUTSIDE);
    }

    private static void traysAreForKinds() {
        BeltArms x = new BeltArms();
        x.see(0, 0, 0, 2);
        x.see(0, 0, 0, 0);
        x.see(0, 0, 0, 2);
        due("TRAY 0", x.tray(0, 0), 1);
        due("TRAY 0, PART 1", x.tray(0, 1), 0);
        due("TRAY 1", x.tray(1, 0), 0);
        due("TRAY 2", x.tray(2, 0), 1);
        due("TRAY 2, PART 1", x.tray(2, 1), 1);
        due("its PART in its own TRAY", x.thing(1, 7), 0);
        for (int bad : new int[] {MIN, -1, 3, 4, MAX}) {
            due("TRAY " + bad, x.tray(bad, 0), OUTSIDE);
        }
    }

    private static void laidByRisingTicks() {
        BeltArms x = new BeltArms();
        x.set(1, 6);
        for (int i = 0; i < 6; i++) {
            x.see(25 - 5 * i, 0, 0, 0);
        }
        for (int i = 0; i < 6; i++) {
            due("taken at", x.thing(i, 5), 75 - 5 * i);
            due("the last that came is laid first", x.thing(i, 7), 5 - i);
        }
    }

    private static void laidByRisingArms() {
        BeltArms x = standing();
        x.set(1, 4);
        for (int arm = 0; arm <= 3; arm++) {
            x.reach(arm, 50 - 10 * arm, 50 - 10 * arm);
        }
        for (int place : new int[] {30, 50, 20, 40}) {
            x.see(0, 0, place, 0);
        }
        int[] arms = {2, 0, 3, 1};
        for (int i = 0; i < 4; i++) {
            due("all at TICK 5", x.thing(i, 5), 5);
            due("by ARM", x.thing(i, 6), arms[i]);
            due("the PART by rising ARMS", x.thing(i, 7), arms[i]);
        }
        x.beat(0, 6, 0);
        due("ARM 0 is a TICK later: laid last", x.thing(1, 7), 3);
        due("ARM 1 is the first then", x.thing(3, 7), 0);
    }

    private static void fewestThenLeast() {
        BeltArms x = withThings(20);
        for (int share = 1; share <= 6; share++) {
            x.set(1, share);
            for (int i = 0; i < 20; i++) {
                due("SHARE " + share + ": THING " + i, x.thing(i, 7), i % share);
            }
            for (int part = 0; part < share; part++) {
                due("SHARE " + share + ": PART " + part, x.tray(0, part),
                        (20 - part + share - 1) / share);
            }
        }
    }

    private static void missedOnesAreNotLaid() {
        BeltArms x = twentyBeats(7);
        // THINGS 0 to 6 are taken; KINDS 0, 1, 2, 0, 1, 2, 0
        due("TRAY 0, PART 0", x.tray(0, 0), 2);
        due("TRAY 0, PART 1", x.tray(0, 1), 1);
        due("TRAY 1, PART 0", x.tray(1, 0), 1);
        due("TRAY 2, PART 1", x.tray(2, 1), 1);
        due("the last that is laid", x.thing(6, 7), 0);
        due("the first that is not", x.thing(7, 7), NONE);
        due("the first that is not: its ARM", x.thing(7, 6), NONE);
    }
}
