/**
 * Each sentence of the document that names a boundary has a test of its own here, in the document's
 * order: the least and the greatest that is allowed, the next one beyond each of them, none at all,
 * and as many as there can be. Which refusal comes first, and that a refused call changes nothing,
 * is told in RefusalsTest.
 */
public final class BoundariesTest extends Checks {
    private static final int MIN = Integer.MIN_VALUE, MAX = Integer.MAX_VALUE;

    public static void main(String[] args) {
        belt();
        sights();
        things();
        arms();
        canTake();
        thePlan();
        trays();
        calls();
        end();
    }

    // ======== 1: TICKS, SPEED, CHANGES, GONE

    private static void belt() {
        ticksAre0To300();
        speedIs0To9();
        speedIs2AtFirst();
        upTo8Changes();
        changesBeginFrom1To300();
        changesLastTillTheNext();
        noTwoChangesBeginAtOneTick();
        goneAddsTheTicksBefore();
        goneIs0AtTick0();
    }

    private static void ticksAre0To300() {
        BeltArms x = new BeltArms();
        due("TICK 0: see", x.see(0, 0, 0, 0), 0);
        due("TICK 300: see", x.see(300, 1, 0, 0), 1);
        due("TICK 0: speed", x.speed(0, 2), 2);
        due("TICK 300: speed", x.speed(300, 2), 2);
        due("TICK 300: level", x.level(300), 0);
        due("TICK 0: gone", x.gone(0), 0);
        due("TICK 300: gone", x.gone(300), 600);
        due("TICK 0: place", x.place(0, 0), 10000);
        due("TICK 300: place", x.place(0, 300), 10600);
        due("TICK 0: can", x.can(0, 0, 0), 0);
        due("TICK 300: can", x.can(0, 0, 300), 0);
        due("TICK 0: takes", x.takes(0, 0), NONE);
        due("TICK 300: takes", x.takes(0, 300), NONE);
        for (int bad : new int[] {MIN, -300, -1, 301, 302, 600, MAX}) {
            due("TICK " + bad + ": see", x.see(bad, 0, 0, 0), OUTSIDE);
            due("TICK " + bad + ": speed", x.speed(bad, 2), OUTSIDE);
            due("TICK " + bad + ": level", x.level(bad), OUTSIDE);
            due("TICK " + bad + ": gone", x.gone(bad), OUTSIDE);
            due("TICK " + bad + ": place", x.place(0, bad), OUTSIDE);
            due("TICK " + bad + ": can", x.can(0, 0, bad), OUTSIDE);
            due("TICK " + bad + ": takes", x.takes(0, bad), OUTSIDE);
        }
    }

    private static void speedIs0To9() {
        BeltArms x = new BeltArms();
        due("SPEED 0, the first", x.speed(0, 0), 2);
        due("SPEED 9, the first", x.speed(0, 9), 0);
        due("SPEED 0, a CHANGE", x.speed(7, 0), 9);
        due("SPEED 9, a CHANGE", x.speed(7, 9), 0);
        for (int bad : new int[] {MIN, -9, -1, 10, 11, MAX}) {
            due("SPEED " + bad + ", the first", x.speed(0, bad), OUTSIDE);
            due("SPEED " + bad + ", a CHANGE that is there", x.speed(7, bad), OUTSIDE);
            due("SPEED " + bad + ", a new CHANGE", x.speed(8, bad), OUTSIDE);
        }
        due("SPEED: the least belt", standing().gone(300), 0);
        x.speed(7, 9);
        due("SPEED: the fastest belt", x.gone(300), 2700);
    }

    private static void speedIs2AtFirst() {
        for (int tick : new int[] {0, 1, 150, 299, 300}) {
            due("SPEED 2 at first, at TICK " + tick, new BeltArms().speed(tick, 5), 2);
        }
        due("SPEED 2 at first from TICK 0 on", new BeltArms().gone(1), 2);
        due("SPEED 2 at first: no CHANGE", new BeltArms().count(1), 0);
    }

    private static BeltArms withChanges(int many) {
        BeltArms x = new BeltArms();
        for (int i = 1; i <= many; i++) {
            x.speed(10 * i, i);
        }
        return x;
    }

    private static void upTo8Changes() {
        due("CHANGES: none", withChanges(0).count(1), 0);
        due("CHANGES: one", withChanges(1).count(1), 1);
        due("CHANGES: eight", withChanges(8).count(1), 8);
        due("CHANGES: the eighth is taken", withChanges(7).speed(300, 9), 7);
        for (int tick : new int[] {1, 9, 11, 45, 79, 81, 300}) {
            due("CHANGES: a ninth at " + tick, withChanges(8).speed(tick, 0), FULL);
        }
        for (int i = 1; i <= 8; i++) {
            BeltArms x = withChanges(8);
            due("CHANGES: TICK " + 10 * i + " of the eight", x.speed(10 * i, 0), i);
            due("CHANGES: they are eight still", x.count(1), 8);
            due("CHANGES: told anew", x.gone(10 * i + 1) - x.gone(10 * i), 0);
        }
        BeltArms x = withChanges(8);
        due("CHANGES: TICK 0 is none of them", x.speed(0, 9), 2);
        due("CHANGES: TICK 0 is none of them", x.count(1), 8);
        due("CHANGES: one of the eight goes", x.level(40), 7);
        due("CHANGES: an eighth again", x.speed(41, 9), 3);
        due("CHANGES: and no ninth", x.speed(40, 9), FULL);
    }

    private static void changesBeginFrom1To300() {
        BeltArms x = new BeltArms();
        due("a CHANGE at 1", x.speed(1, 5), 2);
        due("a CHANGE at 1: the TICK before", x.gone(1), 2);
        due("a CHANGE at 1: its TICK", x.gone(2), 7);
        due("a CHANGE at 1: to the end", x.gone(300), 2 + 299 * 5);
        due("a CHANGE at 300", x.speed(300, 9), 5);
        due("a CHANGE at 300 adds to no GONE", x.gone(300), 2 + 299 * 5);
        due("a CHANGE at 300 is there", x.count(1), 2);
        due("a CHANGE at 300: what it was", x.speed(300, 8), 9);
        due("a CHANGE at 299", x.speed(299, 0), 5);
        due("a CHANGE at 299: its TICK", x.gone(300), 2 + 298 * 5);
    }

    private static void changesLastTillTheNext() {
        BeltArms x = new BeltArms();
        x.speed(20, 7);
        due("told before another", x.speed(10, 4), 2);
        due("it lasts till the next: at 19", x.gone(20) - x.gone(19), 4);
        due("it lasts till the next: at 20", x.gone(21) - x.gone(20), 7);
        due("between two", x.speed(15, 1), 4);
        due("what is before stays", x.gone(15), 20 + 5 * 4);
        due("till the next", x.gone(20), 20 + 5 * 4 + 5);
        due("what is behind stays", x.gone(30), 20 + 5 * 4 + 5 + 70);
        due("next to one another", x.speed(16, 9), 1);
        due("one TICK long", x.gone(17), 20 + 5 * 4 + 1 + 9);
        due("the first one till the first CHANGE", x.speed(0, 3), 2);
        due("the first one till the first CHANGE", x.gone(11), 30 + 4);
        due("the last one to the end", x.gone(300) - x.gone(299), 7);
        due("the last one to the end", x.speed(300, 0), 7);
    }

    private static void noTwoChangesBeginAtOneTick() {
        BeltArms x = new BeltArms();
        due("at one TICK: the first told", x.speed(50, 4), 2);
        due("at one TICK: told again", x.speed(50, 6), 4);
        due("at one TICK: one CHANGE", x.count(1), 1);
        due("at one TICK: the last told holds", x.gone(51), 106);
        due("at one TICK: it goes whole", x.level(50), 0);
        due("at one TICK: it goes whole", x.gone(51), 102);
        due("at one TICK: none is left", x.level(50), NO);
        due("a CHANGE to the same SPEED", x.speed(50, 2), 2);
        due("a CHANGE to the same SPEED is one", x.count(1), 1);
    }

    private static void goneAddsTheTicksBefore() {
        BeltArms x = new BeltArms();
        for (int i = 1; i <= 8; i++) {
            x.speed(i, i + 1);
        }
        // SPEEDS 2, 2, 3, 4, 5, 6, 7, 8, 9, 9, ..
        int[] gone = {0, 2, 4, 7, 11, 16, 22, 29, 37, 46, 55};
        for (int tick = 0; tick <= 10; tick++) {
            due("GONE at " + tick, x.gone(tick), gone[tick]);
        }
        due("GONE at 300", x.gone(300), 37 + 292 * 9);
    }

    private static void goneIs0AtTick0() {
        BeltArms x = new BeltArms();
        for (int speed = 0; speed <= 9; speed++) {
            x.speed(0, speed);
            due("GONE at TICK 0 with SPEED " + speed, x.gone(0), 0);
            due("GONE at TICK 1 with SPEED " + speed, x.gone(1), speed);
        }
    }

    // ======== 1: SIGHTS

    private static void sights() {
        sightsHaveBounds();
        nearIs0To20();
        nearIs3AtFirst();
        nearGoesEitherWay();
        nearOfPlacesThatNoSightHas();
        aSightHasItsLaneAndKind();
        aThingIsSeenOnceATick();
        theNearestIsMeant();
        theLeastNumberIsMeant();
    }

    private static void sightsHaveBounds() {
        BeltArms x = new BeltArms();
        due("the least SIGHT", x.see(0, 0, 0, 0), 0);
        due("the greatest SIGHT", x.see(300, 3, 60, 2), 1);
        int[] want = {300, 3, 60, 2, 1};
        for (int what = 0; what <= 4; what++) {
            due("the least SIGHT: " + what, x.thing(0, what), what == 4 ? 1 : 0);
            due("the greatest SIGHT: " + what, x.thing(1, what), want[what]);
        }
        for (int bad : new int[] {MIN, -1, 4, 5, MAX}) {
            due("LANE " + bad, x.see(0, bad, 0, 0), OUTSIDE);
        }
        for (int bad : new int[] {MIN, -1, 61, 62, MAX}) {
            due("PLACE " + bad, x.see(0, 0, bad, 0), OUTSIDE);
        }
        for (int bad : new int[] {MIN, -1, 3, 4, MAX}) {
            due("KIND " + bad, x.see(0, 0, 0, bad), OUTSIDE);
        }
        due("no SIGHT of these", x.count(0), 2);
        due("no SIGHT of these", x.count(4), 0);
    }

    /** A belt that stands, and a THING at PLACE 30: is a SIGHT so far away of it? */
    private static int sightAway(int near, int away) {
        BeltArms x = standing();
        x.set(0, near);
        x.see(0, 0, 30, 0);
        return x.see(1, 0, 30 + away, 0);
    }

    private static void nearIs0To20() {
        due("NEAR 0, 0 away", sightAway(0, 0), 0);
        due("NEAR 0, 1 behind", sightAway(0, 1), 1);
        due("NEAR 0, 1 before", sightAway(0, -1), 1);
        due("NEAR 1, 1 behind", sightAway(1, 1), 0);
        due("NEAR 1, 2 before", sightAway(1, -2), 1);
        due("NEAR 20, 20 behind", sightAway(20, 20), 0);
        due("NEAR 20, 20 before", sightAway(20, -20), 0);
        due("NEAR 20, 21 behind", sightAway(20, 21), 1);
        due("NEAR 20, 21 before", sightAway(20, -21), 1);
        BeltArms x = new BeltArms();
        for (int bad : new int[] {MIN, -20, -1, 21, 22, MAX}) {
            due("NEAR " + bad, x.set(0, bad), OUTSIDE);
        }
        due("NEAR 20", x.set(0, 20), 3);
        due("NEAR 0", x.set(0, 0), 20);
        due("NEAR is 0", x.count(2), 0);
    }

    private static void nearIs3AtFirst() {
        due("NEAR at first", new BeltArms().count(2), 3);
        BeltArms x = new BeltArms();
        x.see(0, 0, 30, 0);
        due("NEAR at first: 3 away", x.see(1, 0, 35, 0), 0);
        due("NEAR at first: 4 away", x.see(2, 0, 38, 0), 1);
    }

    private static void nearGoesEitherWay() {
        for (int away = -6; away <= 6; away++) {
            due("NEAR 3, away " + away, sightAway(3, away), away < -3 || away > 3 ? 1 : 0);
        }
    }

    /** A THING's PLACE goes below 0 and above 60, where no SIGHT can be, and may be NEAR all the same. */
    private static void nearOfPlacesThatNoSightHas() {
        BeltArms x = new BeltArms();
        x.speed(0, 1);
        x.see(100, 0, 10, 0);
        due("PLACE -4 is not NEAR 0", x.see(86, 0, 0, 0), 1);
        due("PLACE -3 is NEAR 0", x.see(87, 1, 0, 0), 2);
        BeltArms y = new BeltArms();
        y.speed(0, 1);
        y.see(100, 0, 10, 0);
        due("PLACE -3 is NEAR 0", y.see(87, 0, 0, 0), 0);
        due("PLACE 63 is NEAR 60", y.see(153, 0, 60, 0), 0);
        due("PLACE 64 is not NEAR 60", y.see(154, 0, 60, 0), 1);
        due("what it came with stays", y.thing(0, 2), 10);
        BeltArms z = new BeltArms();
        z.speed(0, 9);
        z.set(0, 20);
        z.see(300, 0, 0, 0);
        due("PLACE -2700 is far from 0", z.see(0, 0, 0, 0), 1);
        z.drop(0);
        due("PLACE 2700 is far from 60", z.see(300, 0, 60, 0), 1);
    }

    private static void aSightHasItsLaneAndKind() {
        for (int lane = 0; lane <= 3; lane++) {
            for (int kind = 0; kind <= 2; kind++) {
                BeltArms x = new BeltArms();
                x.see(0, 1, 10, 1);
                int want = lane == 1 && kind == 1 ? 0 : 1;
                due("of LANE " + lane + ", KIND " + kind, x.see(1, lane, 12, kind), want);
            }
        }
        BeltArms x = standing();
        x.see(0, 0, 10, 0);
        x.see(0, 1, 12, 0);
        x.see(0, 0, 12, 1);
        due("a nearer one of another LANE, one of another KIND", x.see(1, 0, 12, 0), 0);
    }

    private static void aThingIsSeenOnceATick() {
        BeltArms x = standing();
        x.see(100, 0, 30, 0);
        due("the TICK by which it came", x.see(100, 0, 30, 0), 1);
        due("the TICK before", x.see(99, 0, 30, 0), 0);
        due("the TICK behind", x.see(101, 0, 30, 0), 0);
        due("a later SIGHT's TICK: the other one", x.see(101, 0, 30, 0), 1);
        due("both were SEEN then", x.see(101, 0, 30, 0), 2);
        due("SEEN at", x.thing(0, 4), 3);
        due("SEEN at", x.thing(1, 4), 2);
        due("SEEN at", x.thing(2, 4), 1);
        BeltArms y = standing();
        for (int tick = 300; tick >= 0; tick--) {
            due("SEEN at TICK " + tick, y.see(tick, 0, 30, 0), 0);
        }
        due("SEEN at all TICKS", y.thing(0, 4), 301);
        due("it came by TICK 300", y.thing(0, 0), 300);
        for (int tick : new int[] {0, 1, 31, 32, 63, 64, 127, 128, 255, 256, 299, 300}) {
            due("SEEN at TICK " + tick + " already", y.see(tick, 0, 30, 0), 1);
        }
    }

    private static void theNearestIsMeant() {
        BeltArms x = standing();
        x.set(0, 20);
        x.see(0, 0, 20, 0);
        x.see(0, 0, 28, 0);
        x.see(0, 0, 33, 0);
        due("0 away", x.see(1, 0, 28, 0), 1);
        due("3 behind it, 2 before it", x.see(2, 0, 31, 0), 2);
        due("2 behind it, 3 before it", x.see(3, 0, 30, 0), 1);
        due("the nearest was SEEN then: the next", x.see(3, 0, 30, 0), 2);
        due("and the next", x.see(3, 0, 30, 0), 0);
        due("and a new one", x.see(3, 0, 30, 0), 3);
    }

    private static void theLeastNumberIsMeant() {
        BeltArms x = standing();
        x.see(0, 0, 32, 0);
        x.see(0, 0, 28, 0);
        x.see(0, 0, 32, 0);
        due("as near: 32 and 28 to 30", x.see(1, 0, 30, 0), 0);
        due("as near: 28 and 32 to 30", x.see(1, 0, 30, 0), 1);
        due("as near: the last", x.see(1, 0, 30, 0), 2);
        x.drop(0);
        due("numbers as they are now: 28 and 32", x.see(2, 0, 30, 0), 0);
        due("numbers as they are now", x.thing(0, 2), 28);
        BeltArms y = standing();
        for (int i = 0; i < 20; i++) {
            y.see(0, 0, 30, 0);
        }
        for (int i = 0; i < 20; i++) {
            due("twenty as near ones", y.see(1, 0, 30, 0), i);
        }
    }

    // ======== 1: THINGS

    private static void things() {
        upTo20Things();
        thoseBehindAreOneLess();
        aThingKeepsWhatItCameWith();
        seenAtTheTicksOfAllSights();
        placesBeforeItsTick();
        placesFollowTheBelt();
    }

    private static BeltArms standing() {
        BeltArms x = new BeltArms();
        x.speed(0, 0);
        return x;
    }

    /** So many THINGS at PLACE 0 of TICK 0, KIND 0, in LANE 0. */
    private static BeltArms withThings(int many) {
        BeltArms x = new BeltArms();
        for (int i = 0; i < many; i++) {
            x.see(0, 0, 0, 0);
        }
        return x;
    }

    private static void upTo20Things() {
        due("THINGS: none", withThings(0).count(0), 0);
        due("THINGS: none, so THING 0", withThings(0).thing(0, 0), UNKNOWN);
        due("THINGS: the twentieth", withThings(19).see(0, 0, 0, 0), 19);
        BeltArms x = withThings(20);
        due("THINGS: twenty", x.count(0), 20);
        due("THINGS: a twenty-first", x.see(0, 0, 0, 0), FULL);
        due("THINGS: a twenty-first elsewhere", x.see(300, 3, 60, 2), FULL);
        due("THINGS: twenty, one SEEN again", x.see(1, 0, 2, 0), 0);
        due("THINGS: THING 19", x.thing(19, 0), 0);
        due("THINGS: no THING 20", x.thing(20, 0), UNKNOWN);
        due("THINGS: one goes", x.drop(19), 19);
        due("THINGS: a twentieth again", x.see(300, 3, 60, 2), 19);
        due("THINGS: and no more", x.see(300, 3, 60, 1), FULL);
    }

    private static void thoseBehindAreOneLess() {
        for (int gone : new int[] {0, 1, 10, 18, 19}) {
            BeltArms x = new BeltArms();
            for (int i = 0; i < 20; i++) {
                x.see(i, i % 4, 3 * i, i % 3);
            }
            due("drop(" + gone + ")", x.drop(gone), 19);
            for (int i = 0; i < 19; i++) {
                int was = i < gone ? i : i + 1;
                due("TICK of " + i, x.thing(i, 0), was);
                due("LANE of " + i, x.thing(i, 1), was % 4);
                due("PLACE of " + i, x.thing(i, 2), 3 * was);
                due("KIND of " + i, x.thing(i, 3), was % 3);
            }
            due("THING 19 is not", x.thing(19, 0), UNKNOWN);
        }
        BeltArms x = withThings(1);
        due("the only one goes", x.drop(0), 0);
        due("there is none", x.drop(0), UNKNOWN);
        due("THING 0 anew", x.see(5, 1, 5, 1), 0);
        due("THING 0 anew was SEEN once", x.thing(0, 4), 1);
        due("THING 0 anew was not SEEN before", x.see(0, 1, 0, 1), 1);
    }

    private static void aThingKeepsWhatItCameWith() {
        BeltArms x = new BeltArms();
        x.see(200, 2, 30, 1);
        due("an earlier TICK, told later", x.see(190, 2, 12, 1), 0);
        due("a later TICK", x.see(210, 2, 48, 1), 0);
        int[] want = {200, 2, 30, 1, 3};
        for (int what = 0; what <= 4; what++) {
            due("what it came with: " + what, x.thing(0, what), want[what]);
        }
        due("its PLACE follows from the SIGHT that was told first", x.place(0, 200), 10030);
        due("its PLACE follows from the SIGHT that was told first", x.place(0, 190), 10010);
        due("its PLACE follows from the SIGHT that was told first", x.place(0, 210), 10050);
    }

    private static void seenAtTheTicksOfAllSights() {
        BeltArms x = new BeltArms();
        x.see(10, 0, 0, 0);
        x.see(20, 0, 20, 0);
        x.see(15, 0, 10, 0);
        due("SEEN at three", x.thing(0, 4), 3);
        due("one THING was SEEN more than once", x.count(4), 1);
        due("SEEN at 15: a new one", x.see(15, 0, 10, 0), 1);
        due("not SEEN at 16", x.see(16, 0, 12, 0), 0);
        due("one THING was SEEN more than once", x.count(4), 1);
        due("the other was not SEEN at 16", x.see(16, 0, 12, 0), 1);
        due("two THINGS were SEEN more than once", x.count(4), 2);
    }

    private static void placesBeforeItsTick() {
        BeltArms x = new BeltArms();
        x.speed(0, 9);
        x.see(300, 0, 0, 0);
        x.see(0, 0, 60, 0);
        due("the least PLACE", x.place(0, 0), 10000 - 2700);
        due("the greatest PLACE", x.place(1, 300), 10000 + 2760);
        due("at its TICK", x.place(0, 300), 10000);
        due("at its TICK", x.place(1, 0), 10060);
        due("a TICK before", x.place(0, 299), 10000 - 9);
        due("a TICK behind", x.place(1, 1), 10069);
    }

    private static void placesFollowTheBelt() {
        BeltArms x = new BeltArms();
        x.see(100, 0, 50, 0);
        x.speed(99, 7);
        due("a CHANGE before its TICK: at it", x.place(0, 100), 10050);
        due("a CHANGE before its TICK: before", x.place(0, 99), 10043);
        due("a CHANGE before its TICK: behind", x.place(0, 101), 10057);
        x.speed(100, 0);
        due("a CHANGE at its TICK: before", x.place(0, 99), 10043);
        due("a CHANGE at its TICK: behind", x.place(0, 101), 10050);
        x.level(99);
        due("it goes: before", x.place(0, 99), 10048);
        due("it goes: behind", x.place(0, 300), 10050);
        due("SIGHTS by the belt as it is now", x.see(300, 0, 53, 0), 0);
    }

    // ======== 2: ARMS

    private static void arms() {
        armsAre0To3();
        armsAtFirst();
        fromAndTillAre0To999();
        fromIsNoGreaterThanTill();
        noPlaceIsReachedByTwo();
        lanesAreASetOfFour();
        beatIs1To20();
        offIs0ToBeatLess1();
    }

    private static void armsAre0To3() {
        BeltArms x = withThings(1);
        for (int arm = 0; arm <= 3; arm++) {
            due("ARM " + arm + ": reach", x.reach(arm, 100 + 100 * arm, 160 + 100 * arm), 1);
            due("ARM " + arm + ": beat", x.beat(arm, 5, 0), 1);
            due("ARM " + arm + ": lanes", x.lanes(arm, 15), 15);
            due("ARM " + arm + ": arm", x.arm(arm, 2), 5);
            due("ARM " + arm + ": can", x.can(arm, 0, 50 + 50 * arm), 1);
            due("ARM " + arm + ": takes", x.takes(arm, 50), arm == 0 ? 0 : NONE);
        }
        for (int bad : new int[] {MIN, -4, -1, 4, 5, MAX}) {
            due("ARM " + bad + ": reach", x.reach(bad, 900, 900), UNKNOWN);
            due("ARM " + bad + ": beat", x.beat(bad, 5, 0), UNKNOWN);
            due("ARM " + bad + ": lanes", x.lanes(bad, 15), UNKNOWN);
            due("ARM " + bad + ": arm", x.arm(bad, 2), UNKNOWN);
            due("ARM " + bad + ": can", x.can(bad, 0, 50), UNKNOWN);
            due("ARM " + bad + ": takes", x.takes(bad, 50), UNKNOWN);
        }
    }

    private static void armsAtFirst() {
        int[][] want = {{100, 160, 5, 0, 15, 0, 0}, {200, 260, 5, 0, 15, 0, 0},
            {300, 360, 5, 0, 15, 0, 0}, {400, 460, 5, 0, 15, 0, 0}};
        BeltArms x = new BeltArms();
        for (int arm = 0; arm <= 3; arm++) {
            for (int what = 0; what <= 6; what++) {
                due("at first: arm(" + arm + ", " + what + ")", x.arm(arm, what), want[arm][what]);
            }
        }
    }

    private static void fromAndTillAre0To999() {
        BeltArms x = new BeltArms();
        due("FROM 0", x.reach(0, 0, 99), 1);
        due("FROM is 0", x.arm(0, 0), 0);
        due("TILL 999", x.reach(3, 998, 999), 1);
        due("TILL is 999", x.arm(3, 1), 999);
        due("FROM and TILL 999", x.reach(3, 999, 999), 1);
        due("FROM and TILL 0", x.reach(0, 0, 0), 1);
        for (int bad : new int[] {MIN, -999, -1, 1000, 1001, MAX}) {
            due("FROM " + bad, x.reach(0, bad, 50), OUTSIDE);
            due("FROM " + bad + ", TILL 999", x.reach(3, bad, 999), OUTSIDE);
            due("TILL " + bad, x.reach(3, 950, bad), OUTSIDE);
            due("TILL " + bad + ", FROM 0", x.reach(0, 0, bad), OUTSIDE);
            due("FROM and TILL " + bad, x.reach(0, bad, bad), OUTSIDE);
        }
        due("FROM and TILL far off", x.reach(0, MIN, MAX), OUTSIDE);
        due("FROM and TILL far off, the other way", x.reach(0, MAX, MIN), OUTSIDE);
        for (int arm = 1; arm <= 3; arm++) {
            x.reach(arm, 999 - arm, 999 - arm);
        }
        x.reach(0, 0, 0);
        due("an ARM alone", x.reach(0, 0, 995), 1);
    }

    private static void fromIsNoGreaterThanTill() {
        BeltArms x = new BeltArms();
        due("FROM is TILL", x.reach(0, 50, 50), 1);
        due("FROM is 1 less", x.reach(0, 50, 51), 1);
        due("FROM is 1 greater", x.reach(0, 51, 50), OUTSIDE);
        due("FROM is 999, TILL is 0", x.reach(0, 999, 0), OUTSIDE);
        due("it is as it was", x.arm(0, 0), 50);
        due("it is as it was", x.arm(0, 1), 51);
    }

    private static void noPlaceIsReachedByTwo() {
        due("next to the one before", new BeltArms().reach(1, 161, 260), 1);
        due("on TILL of the one before", new BeltArms().reach(1, 160, 260), NO);
        due("next to the one behind", new BeltArms().reach(1, 200, 299), 1);
        due("on FROM of the one behind", new BeltArms().reach(1, 200, 300), NO);
        due("between two", new BeltArms().reach(1, 161, 299), 1);
        due("just another's FROM", new BeltArms().reach(1, 400, 400), NO);
        due("just another's TILL", new BeltArms().reach(1, 460, 460), NO);
        due("just before another's FROM", new BeltArms().reach(1, 399, 399), 1);
        due("just behind another's TILL", new BeltArms().reach(1, 461, 461), 1);
        due("within another", new BeltArms().reach(1, 420, 430), NO);
        due("around another", new BeltArms().reach(1, 361, 999), NO);
        due("the same as another", new BeltArms().reach(1, 300, 360), NO);
        due("around all", new BeltArms().reach(1, 0, 999), NO);
        due("its own PLACES", new BeltArms().reach(1, 200, 260), 1);
        due("some of its own PLACES", new BeltArms().reach(1, 230, 299), 1);
        due("ARM 0 behind all others", new BeltArms().reach(0, 461, 999), 1);
        due("ARM 3 before all others", new BeltArms().reach(3, 0, 99), 1);
        for (int other = 0; other <= 3; other++) {
            for (int arm = 0; arm <= 3; arm++) {
                BeltArms x = new BeltArms();
                x.lanes(arm, 0);
                x.lanes(other, 0);
                int place = 160 + 100 * other;
                due("no LANES: ARM " + arm + " on ARM " + other, x.reach(arm, place, place),
                        arm == other ? 1 : NO);
            }
        }
        BeltArms x = new BeltArms();
        due("a PLACE that is left", x.reach(1, 261, 299), 1);
        due("is free for another", x.reach(0, 200, 260), 1);
        due("and so is that one's", x.reach(1, 100, 160), 1);
    }

    private static void lanesAreASetOfFour() {
        BeltArms x = new BeltArms();
        due("LANES 0", x.lanes(2, 0), 15);
        due("LANES 1", x.lanes(2, 1), 0);
        due("LANES 8", x.lanes(2, 8), 1);
        due("LANES 15", x.lanes(2, 15), 8);
        for (int bad : new int[] {MIN, -15, -1, 16, 17, 31, MAX}) {
            due("LANES " + bad, x.lanes(2, bad), OUTSIDE);
        }
        due("LANES are 15", x.arm(2, 4), 15);
        for (int set = 0; set <= 15; set++) {
            x.lanes(2, set);
            due("LANES are " + set, x.arm(2, 4), set);
            due("LANES of another", x.arm(1, 4), 15);
        }
    }

    private static void beatIs1To20() {
        BeltArms x = new BeltArms();
        due("BEAT 1", x.beat(0, 1, 0), 1);
        due("BEAT is 1", x.arm(0, 2), 1);
        due("BEAT 20", x.beat(0, 20, 0), 1);
        due("BEAT is 20", x.arm(0, 2), 20);
        for (int bad : new int[] {MIN, MIN + 1, -20, -1, 0, 21, 22, MAX}) {
            due("BEAT " + bad, x.beat(0, bad, 0), OUTSIDE);
        }
        due("BEAT is 20 still", x.arm(0, 2), 20);
        due("BEAT of another", x.arm(1, 2), 5);
    }

    private static void offIs0ToBeatLess1() {
        BeltArms x = new BeltArms();
        for (int beat = 1; beat <= 20; beat++) {
            due("OFF 0 of " + beat, x.beat(0, beat, 0), 1);
            due("OFF -1 of " + beat, x.beat(0, beat, -1), OUTSIDE);
            due("OFF " + beat + " of " + beat, x.beat(0, beat, beat), OUTSIDE);
            due("OFF is 0 still", x.arm(0, 3), 0);
            due("OFF " + (beat - 1) + " of " + beat, x.beat(0, beat, beat - 1), 1);
            due("OFF is the greatest", x.arm(0, 3), beat - 1);
        }
        due("OFF far off", x.beat(0, 20, MIN), OUTSIDE);
        due("OFF far off", x.beat(0, 20, MAX), OUTSIDE);
        due("a lesser BEAT with the OFF that was", x.beat(0, 19, 19), OUTSIDE);
        due("the BEAT that was", x.arm(0, 2), 20);
        due("OFF of another", x.arm(1, 3), 0);
    }

    // ======== 2: CAN

    private static void canTake() {
        beatDividesTickLessOff();
        theTickIsGreaterThanItsTick();
        itsLaneIsOfItsLanes();
        fromAndTillAreReached();
        chancesOfThings();
    }

    /** A belt that stands, a THING at PLACE 30, SEEN at a TICK, and ARM 2 over it. */
    private static BeltArms underArm2(int tick, int beat, int off) {
        BeltArms x = standing();
        x.reach(2, 30, 30);
        x.beat(2, beat, off);
        x.see(tick, 0, 30, 0);
        return x;
    }

    private static void beatDividesTickLessOff() {
        BeltArms x = underArm2(0, 20, 19);
        for (int tick = 0; tick <= 300; tick++) {
            int want = tick % 20 == 19 ? 1 : 0;
            due("BEAT 20, OFF 19: TICK " + tick, x.can(2, 0, tick), want);
        }
        BeltArms y = underArm2(0, 1, 0);
        for (int tick = 1; tick <= 300; tick++) {
            due("BEAT 1: TICK " + tick, y.can(2, 0, tick), 1);
        }
        BeltArms z = underArm2(0, 20, 0);
        due("BEAT 20: TICK 20", z.can(2, 0, 20), 1);
        due("BEAT 20: TICK 21", z.can(2, 0, 21), 0);
        due("BEAT 20: TICK 280", z.can(2, 0, 280), 1);
        due("BEAT 20: TICK 299", z.can(2, 0, 299), 0);
        due("BEAT 20: TICK 300", z.can(2, 0, 300), 1);
        z.beat(2, 7, 3);
        due("less than OFF", z.can(2, 0, 1), 0);
        due("OFF itself", z.can(2, 0, 3), 1);
        due("OFF and BEAT", z.can(2, 0, 10), 1);
        due("BEAT", z.can(2, 0, 7), 0);
        due("OFF less 1 and BEAT", z.can(2, 0, 9), 0);
    }

    private static void theTickIsGreaterThanItsTick() {
        for (int tick : new int[] {0, 1, 150, 298, 299}) {
            BeltArms x = underArm2(tick, 1, 0);
            due("its own TICK " + tick, x.can(2, 0, tick), 0);
            due("the next TICK", x.can(2, 0, tick + 1), 1);
            due("the TICK before", x.can(2, 0, Math.max(0, tick - 1)), 0);
            due("the last TICK", x.can(2, 0, 300), 1);
        }
        BeltArms x = underArm2(300, 1, 0);
        due("TICK 300: its own", x.can(2, 0, 300), 0);
        due("TICK 300: one before", x.can(2, 0, 299), 0);
        due("TICK 300: none at all", x.thing(0, 10), 0);
        BeltArms y = underArm2(100, 1, 0);
        y.see(50, 0, 30, 0);
        due("SEEN earlier too: the TICK by which it came counts", y.can(2, 0, 100), 0);
        due("SEEN earlier too: the TICK by which it came counts", y.thing(0, 8), 101);
        y.see(150, 0, 30, 0);
        due("SEEN later too", y.can(2, 0, 101), 1);
    }

    private static void itsLaneIsOfItsLanes() {
        for (int lane = 0; lane <= 3; lane++) {
            for (int set = 0; set <= 15; set++) {
                BeltArms x = standing();
                x.reach(2, 30, 30);
                x.lanes(2, set);
                x.see(0, lane, 30, 0);
                int want = set >> lane & 1;
                due("LANE " + lane + " of " + set, x.can(2, 0, 5), want);
                due("LANE " + lane + " of " + set + ": plan", x.plan(0), want);
                due("LANE " + lane + " of " + set + ": first", x.thing(0, 8), want == 1 ? 5 : NONE);
                due("LANE " + lane + " of " + set + ": last", x.thing(0, 9), want == 1 ? 300 : NONE);
                due("LANE " + lane + " of " + set + ": all", x.thing(0, 10), 60 * want);
            }
        }
    }

    private static void fromAndTillAreReached() {
        BeltArms x = new BeltArms();
        x.speed(0, 1);
        x.beat(1, 1, 0);
        x.see(0, 0, 0, 0);
        due("FROM less 1", x.can(1, 0, 199), 0);
        due("FROM", x.can(1, 0, 200), 1);
        due("TILL", x.can(1, 0, 260), 1);
        due("TILL and 1", x.can(1, 0, 261), 0);
        x.reach(1, 230, 230);
        due("one PLACE: before", x.can(1, 0, 229), 0);
        due("one PLACE", x.can(1, 0, 230), 1);
        due("one PLACE: behind", x.can(1, 0, 231), 0);
        x.speed(0, 9);
        due("one PLACE is stepped over: 225", x.can(1, 0, 25), 0);
        due("one PLACE is stepped over: 234", x.can(1, 0, 26), 0);
        x.reach(0, 0, 0);
        x.beat(0, 1, 0);
        due("PLACE 0 at its own TICK only", x.can(0, 0, 0), 0);
        due("PLACE 0 is left at once", x.can(0, 0, 1), 0);
        x.reach(3, 999, 999);
        x.beat(3, 1, 0);
        due("PLACE 999", x.can(3, 0, 111), 1);
        due("PLACE 990", x.can(3, 0, 110), 0);
        due("PLACE 1008", x.can(3, 0, 112), 0);
        BeltArms y = new BeltArms();
        y.reach(0, 0, 99);
        y.see(100, 0, 0, 0);
        due("PLACE below 0", y.can(0, 0, 95), 0);
        due("a PLACE of FROM to TILL, too early", y.can(0, 0, 100), 0);
        due("a PLACE of FROM to TILL", y.can(0, 0, 105), 1);
    }

    /** The first and the last TICK, and how many: across ARMS that stand in another order. */
    private static void chancesOfThings() {
        BeltArms x = new BeltArms();
        x.reach(0, 500, 560);
        x.see(0, 0, 0, 0);
        // PLACE is 2t: ARM 1 100 to 130, ARM 2 150 to 180, ARM 3 200 to 230, ARM 0 250 to 280
        due("the first is by ARM 1", x.thing(0, 8), 100);
        due("the last is by ARM 0", x.thing(0, 9), 280);
        due("seven by each", x.thing(0, 10), 28);
        x.reach(0, 600, 600);
        due("the last is TICK 300", x.thing(0, 9), 300);
        due("one by ARM 0", x.thing(0, 10), 22);
        x.reach(0, 601, 601);
        due("never reached", x.thing(0, 9), 230);
        due("none by ARM 0", x.thing(0, 10), 21);
        BeltArms y = standing();
        y.reach(0, 30, 30);
        y.beat(0, 1, 0);
        y.see(0, 0, 30, 0);
        y.see(0, 0, 20, 0);
        due("as many as there can be", y.thing(0, 10), 300);
        due("none at all: first", y.thing(1, 8), NONE);
        due("none at all: last", y.thing(1, 9), NONE);
        due("none at all: 0, not NONE", y.thing(1, 10), 0);
        y.speed(300, 9);
        due("a CHANGE at 300 moves nothing", y.thing(0, 9), 300);
        y.speed(299, 9);
        due("a CHANGE at 299: TICK 300 is lost", y.thing(0, 9), 299);
    }

    // ======== 2: THE PLAN

    private static void thePlan() {
        noThingAtAll();
        noneCanBeTaken();
        allTwentyAreTaken();
        oneBeatForTwenty();
        noArmTakesTwoAtOneTick();
        twoArmsTakeAtOneTick();
        mostComesFirst();
        earlyThingsComeFirst();
        theLeastTickComesFirst();
        neededOnes();
        armsThatCouldBeSpared();
    }

    private static void noThingAtAll() {
        BeltArms x = new BeltArms();
        int[] want = {0, 0, NONE, 0, 0};
        for (int what = 0; what <= 4; what++) {
            due("no THING: plan(" + what + ")", x.plan(what), want[what]);
        }
        for (int arm = 0; arm <= 3; arm++) {
            due("no THING: ARM " + arm + " takes none", x.arm(arm, 5), 0);
            due("no THING: ARM " + arm + " can be spared", x.arm(arm, 6), 0);
            due("no THING: at TICK 50", x.takes(arm, 50), NONE);
        }
        due("no THING: a TRAY", x.tray(0, 0), 0);
    }

    private static void noneCanBeTaken() {
        BeltArms x = withThings(20);
        x.speed(0, 0);
        int[] want = {0, 20, NONE, (1 << 20) - 1, 0};
        for (int what = 0; what <= 4; what++) {
            due("all MISSED: plan(" + what + ")", x.plan(what), want[what]);
        }
        for (int what = 5; what <= 9; what++) {
            due("all MISSED: thing(19, " + what + ")", x.thing(19, what), NONE);
        }
        due("all MISSED: ARM 0 can be spared", x.arm(0, 6), 0);
        due("all MISSED: nothing is laid", x.tray(0, 0), 0);
    }

    /** ARM 3 alone has as many beats as there are THINGS, no more. */
    private static BeltArms twentyBeats(int beats) {
        BeltArms x = standing();
        x.reach(3, 30, 30);
        x.beat(3, 1, 0);
        for (int i = 0; i < 20; i++) {
            x.see(300 - beats, 0, 30, i % 3);
        }
        return x;
    }

    private static void allTwentyAreTaken() {
        BeltArms x = twentyBeats(20);
        int[] want = {20, 0, 300, 0, (1 << 20) - 1};
        for (int what = 0; what <= 4; what++) {
            due("20 beats: plan(" + what + ")", x.plan(what), want[what]);
        }
        for (int i = 0; i < 20; i++) {
            due("20 beats: THING " + i, x.thing(i, 5), 281 + i);
            due("20 beats: taken at " + (281 + i), x.takes(3, 281 + i), i);
        }
        due("20 beats: all by ARM 3", x.arm(3, 5), 20);
        due("20 beats: all by ARM 3", x.arm(3, 6), 20);
        BeltArms y = twentyBeats(21);
        due("21 beats: the last is not needed", y.plan(2), 299);
        due("21 beats: none at 300", y.takes(3, 300), NONE);
        BeltArms z = twentyBeats(19);
        due("19 beats: plan(0)", z.plan(0), 19);
        due("19 beats: the last THING is MISSED", z.plan(3), 1 << 19);
        due("19 beats: any could be", z.plan(4), 0);
        due("19 beats: MISSED, though it CAN be taken", z.thing(19, 5), NONE);
        due("19 beats: first", z.thing(19, 8), 282);
        due("19 beats: last", z.thing(19, 9), 300);
        due("19 beats: as many", z.thing(19, 10), 19);
    }

    private static void oneBeatForTwenty() {
        BeltArms x = twentyBeats(1);
        due("one beat: plan(0)", x.plan(0), 1);
        due("one beat: plan(1)", x.plan(1), 19);
        due("one beat: plan(2)", x.plan(2), 300);
        due("one beat: THING 0 has it", x.plan(3), (1 << 20) - 2);
        due("one beat: any could have it", x.plan(4), 0);
        x.drop(0);
        due("one beat: who is THING 0 now has it", x.takes(3, 300), 0);
        for (int left = 18; left >= 1; left--) {
            x.drop(left);
        }
        due("one beat, one THING: it is in each PLAN", x.plan(4), 1);
        due("one beat, one THING: none is MISSED", x.plan(3), 0);
        BeltArms y = twentyBeats(0);
        due("no beat: plan(0)", y.plan(0), 0);
        due("no beat: plan(2)", y.plan(2), NONE);
    }

    private static void noArmTakesTwoAtOneTick() {
        BeltArms x = standing();
        x.reach(1, 30, 31);
        x.beat(1, 20, 0);
        x.see(280, 0, 30, 0);
        x.see(280, 1, 31, 1);
        due("both CAN be taken at 300", x.can(1, 0, 300) + x.can(1, 1, 300), 2);
        due("one is taken", x.plan(0), 1);
        due("it is THING 0", x.takes(1, 300), 0);
        due("THING 1 is MISSED", x.plan(3), 2);
        x.beat(1, 10, 0);
        due("another beat: both", x.plan(0), 2);
        due("another beat", x.takes(1, 290), 0);
        due("another beat", x.takes(1, 300), 1);
    }

    private static void twoArmsTakeAtOneTick() {
        BeltArms x = standing();
        for (int arm = 0; arm <= 3; arm++) {
            x.reach(arm, 10 * arm, 10 * arm);
            x.beat(arm, 20, 0);
        }
        for (int arm = 3; arm >= 0; arm--) {
            x.see(299, 0, 10 * arm, 0);
        }
        due("four ARMS at one TICK", x.plan(0), 4);
        for (int arm = 0; arm <= 3; arm++) {
            due("ARM " + arm + " at 300", x.takes(arm, 300), 3 - arm);
            due("ARM " + arm + " is needed", x.arm(arm, 6), 1);
            due("by ARM " + arm, x.thing(3 - arm, 6), arm);
        }
    }

    /** One ARM with a beat of 20 over a belt of SPEED 2: PLACES 100 to TILL. */
    private static BeltArms oneArm(int till) {
        BeltArms x = new BeltArms();
        x.lanes(1, 0);
        x.lanes(2, 0);
        x.lanes(3, 0);
        x.beat(0, 20, 0);
        x.reach(0, 100, till);
        return x;
    }

    private static void mostComesFirst() {
        BeltArms x = oneArm(145);
        x.see(0, 0, 20, 0);
        x.see(0, 1, 30, 0);
        // THING 0: 100 at 40, 140 at 60; THING 1: 110 at 40 alone
        due("THING 0 waits, as two are more than one", x.thing(0, 5), 60);
        due("THING 1 has its only beat", x.thing(1, 5), 40);
        x.reach(0, 100, 139);
        due("TILL is 1 too little: one beat for two", x.plan(0), 1);
        due("THING 0 does not wait", x.thing(0, 5), 40);
        due("THING 1 is MISSED", x.thing(1, 5), NONE);
        x.reach(0, 100, 140);
        due("TILL is just enough", x.plan(0), 2);
    }

    private static void earlyThingsComeFirst() {
        BeltArms x = oneArm(139);
        x.see(0, 0, 30, 0);
        x.see(0, 1, 20, 0);
        x.see(40, 2, 60, 0);
        // THINGS 0 and 1 have 40 alone, THING 2 has 60 (100)
        due("THING 0 before THING 1", x.takes(0, 40), 0);
        due("THING 2 is in no one's way", x.takes(0, 60), 2);
        due("THING 1 is MISSED", x.plan(3), 2);
        due("THING 2 is in each PLAN", x.plan(4), 4);
        x.drop(0);
        due("THING 1 is THING 0 now", x.takes(0, 40), 0);
        due("all are taken", x.plan(3), 0);
        due("all are needed", x.plan(4), 3);
    }

    private static void theLeastTickComesFirst() {
        BeltArms x = oneArm(145);
        x.see(0, 0, 20, 0);
        due("one THING, two beats: the first", x.thing(0, 5), 40);
        due("the other beat stays free", x.takes(0, 60), NONE);
        x.lanes(1, 15);
        x.beat(1, 20, 15);
        due("an ARM farther on changes nothing", x.thing(0, 5), 40);
        BeltArms y = new BeltArms();
        y.reach(0, 461, 500);
        y.see(0, 0, 0, 0);
        due("the least TICK, not the least ARM", y.thing(0, 6), 1);
        due("the least TICK, not the least ARM", y.thing(0, 5), 100);
    }

    private static void neededOnes() {
        BeltArms x = oneArm(145);
        x.see(0, 0, 20, 0);
        x.see(0, 1, 30, 0);
        x.see(20, 2, 50, 0);
        // THING 0: 40, 60; THING 1: 40; THING 2: PLACE 10 + 2t: 60 (130)
        due("three for two beats", x.plan(0), 2);
        due("any of them can be MISSED", x.plan(4), 0);
        due("THING 0 first", x.thing(0, 5), 40);
        due("THING 1 is MISSED", x.plan(3), 2);
        x.see(200, 3, 10, 0);
        due("a fourth, by itself", x.thing(3, 10), 1);
        due("it is in each PLAN", x.plan(4), 8);
        x.drop(1);
        due("enough for all", x.plan(4), 7);
    }

    private static void armsThatCouldBeSpared() {
        BeltArms x = withThings(7);
        due("seven THINGS, seven beats each: ARM 0 takes all", x.arm(0, 5), 7);
        due("it can be spared all the same", x.arm(0, 6), 0);
        for (int arm = 1; arm <= 3; arm++) {
            x.lanes(arm, 0);
            due("ARM " + arm + " takes none", x.arm(arm, 5), 0);
            due("ARM " + arm + " can be spared", x.arm(arm, 6), 0);
        }
        due("ARM 0 is the only one", x.arm(0, 6), 7);
        x.see(0, 0, 0, 0);
        due("an eighth is MISSED", x.plan(1), 1);
        due("an eighth is MISSED with it or without it", x.arm(0, 6), 7);
        x.lanes(1, 1);
        due("ARM 1 takes the eighth", x.arm(1, 5), 1);
        due("without ARM 1 one is MISSED", x.arm(1, 6), 1);
        due("without ARM 0 one is MISSED", x.arm(0, 6), 1);
        due("asking changes nothing", x.plan(0), 8);
        due("asking changes nothing", x.arm(0, 5), 7);
    }

    // ======== 3: TRAYS

    private static void trays() {
        shareIs1To6();
        shareIs2AtFirst();
        traysAreForKinds();
        laidByRisingTicks();
        laidByRisingArms();
        fewestThenLeast();
        missedOnesAreNotLaid();
    }

    private static void shareIs1To6() {
        BeltArms x = new BeltArms();
        due("SHARE 6", x.set(1, 6), 2);
        due("SHARE 1", x.set(1, 1), 6);
        for (int bad : new int[] {MIN, -1, 0, 7, 8, MAX}) {
            due("SHARE " + bad, x.set(1, bad), OUTSIDE);
        }
        due("SHARE is 1", x.count(3), 1);
        for (int share = 1; share <= 6; share++) {
            x.set(1, share);
            for (int kind = 0; kind <= 2; kind++) {
                due("SHARE " + share + ": PART 0", x.tray(kind, 0), 0);
                due("SHARE " + share + ": the last PART", x.tray(kind, share - 1), 0);
                due("SHARE " + share + ": one more", x.tray(kind, share), OUTSIDE);
                due("SHARE " + share + ": PART -1", x.tray(kind, -1), OUTSIDE);
            }
        }
        due("PART far off", x.tray(0, MIN), OUTSIDE);
        due("PART far off", x.tray(0, MAX), OUTSIDE);
    }

    private static void shareIs2AtFirst() {
        BeltArms x = withThings(3);
        due("SHARE at first", x.count(3), 2);
        due("PART 0 at first", x.tray(0, 0), 2);
        due("PART 1 at first", x.tray(0, 1), 1);
        due("PART 2 at first", x.tray(0, 2), OUTSIDE);
    }

    private static void traysAreForKinds() {
        BeltArms x = new BeltArms();
        x.see(0, 0, 0, 2);
        x.see(0, 0, 0, 0);
        x.see(0, 0, 0, 2);
        due("TRAY 0", x.tray(0, 0), 1);
        due("TRAY 0, PART 1", x.tray(0, 1), 0);
        due("TRAY 1", x.tray(1, 0), 0);
        due("TRAY 2", x.tray(2, 0), 1);
        due("TRAY 2, PART 1", x.tray(2, 1), 1);
        due("its PART in its own TRAY", x.thing(1, 7), 0);
        for (int bad : new int[] {MIN, -1, 3, 4, MAX}) {
            due("TRAY " + bad, x.tray(bad, 0), OUTSIDE);
        }
    }

    private static void laidByRisingTicks() {
        BeltArms x = new BeltArms();
        x.set(1, 6);
        for (int i = 0; i < 6; i++) {
            x.see(25 - 5 * i, 0, 0, 0);
        }
        for (int i = 0; i < 6; i++) {
            due("taken at", x.thing(i, 5), 75 - 5 * i);
            due("the last that came is laid first", x.thing(i, 7), 5 - i);
        }
    }

    private static void laidByRisingArms() {
        BeltArms x = standing();
        x.set(1, 4);
        for (int arm = 0; arm <= 3; arm++) {
            x.reach(arm, 50 - 10 * arm, 50 - 10 * arm);
        }
        for (int place : new int[] {30, 50, 20, 40}) {
            x.see(0, 0, place, 0);
        }
        int[] arms = {2, 0, 3, 1};
        for (int i = 0; i < 4; i++) {
            due("all at TICK 5", x.thing(i, 5), 5);
            due("by ARM", x.thing(i, 6), arms[i]);
            due("the PART by rising ARMS", x.thing(i, 7), arms[i]);
        }
        x.beat(0, 6, 0);
        due("ARM 0 is a TICK later: laid last", x.thing(1, 7), 3);
        due("ARM 1 is the first then", x.thing(3, 7), 0);
    }

    private static void fewestThenLeast() {
        BeltArms x = withThings(20);
        for (int share = 1; share <= 6; share++) {
            x.set(1, share);
            for (int i = 0; i < 20; i++) {
                due("SHARE " + share + ": THING " + i, x.thing(i, 7), i % share);
            }
            for (int part = 0; part < share; part++) {
                due("SHARE " + share + ": PART " + part, x.tray(0, part),
                        (20 - part + share - 1) / share);
            }
        }
    }

    private static void missedOnesAreNotLaid() {
        BeltArms x = twentyBeats(7);
        // THINGS 0 to 6 are taken; KINDS 0, 1, 2, 0, 1, 2, 0
        due("TRAY 0, PART 0", x.tray(0, 0), 2);
        due("TRAY 0, PART 1", x.tray(0, 1), 1);
        due("TRAY 1, PART 0", x.tray(1, 0), 1);
        due("TRAY 2, PART 1", x.tray(2, 1), 1);
        due("the last that is laid", x.thing(6, 7), 0);
        due("the first that is not", x.thing(7, 7), NONE);
        due("the first that is not: its ARM", x.thing(7, 6), NONE);
    }

    // ======== Promises: what each call asks for, and its answers

    private static void calls() {
        newObject();
        speedAnswersWhatItWas();
        levelAnswersHowManyAreLeft();
        thingHasElevenAnswers();
        armHasSevenAnswers();
        planHasFiveAnswers();
        countHasNineAnswers();
        setHasTwoNumbers();
        whatWasSeenStays();
        imagesAre0And1();
        nothingIsKeptAtFirst();
        anImageTakesThePlaceOfAnother();
        theImageStays();
        allButImagesIsKept();
        answersAreAsThingsAreNow();
    }

    private static void newObject() {
        BeltArms x = new BeltArms();
        int[] want = {0, 0, 3, 2, 0, 0};
        for (int what = 0; what <= 5; what++) {
            due("new: count(" + what + ")", x.count(what), want[what]);
        }
        for (int tick = 0; tick <= 300; tick++) {
            due("new: gone(" + tick + ")", x.gone(tick), 2 * tick);
        }
        BeltArms y = new BeltArms();
        x.speed(0, 9);
        x.see(0, 0, 0, 0);
        x.image(0);
        due("one object knows nothing of another: SPEED", y.gone(1), 2);
        due("one object knows nothing of another: THINGS", y.count(0), 0);
        due("one object knows nothing of another: IMAGES", y.restore(0), STATE);
    }

    private static void speedAnswersWhatItWas() {
        BeltArms x = new BeltArms();
        due("the first one", x.speed(0, 5), 2);
        due("the first one, again", x.speed(0, 6), 5);
        due("a new CHANGE: what the first one was", x.speed(100, 7), 6);
        due("a CHANGE that is there", x.speed(100, 8), 7);
        due("just behind it", x.speed(101, 1), 8);
        due("just before it", x.speed(99, 1), 6);
        due("the last TICK", x.speed(300, 1), 1);
        due("the first one is as it was", x.speed(0, 0), 6);
    }

    private static void levelAnswersHowManyAreLeft() {
        BeltArms x = withChanges(8);
        due("none begins just before", x.level(9), NO);
        due("none begins just behind", x.level(11), NO);
        due("none begins at 1", x.level(1), NO);
        due("none begins at 300", x.level(300), NO);
        due("TICK 0 is no CHANGE's", x.level(0), OUTSIDE);
        due("the first of eight", x.level(10), 7);
        due("what was before it goes on", x.gone(20), 40);
        due("what is behind it stays", x.gone(30), 60);
        due("the last of seven", x.level(80), 6);
        due("what was before it goes on", x.gone(91) - x.gone(90), 7);
        int[] ticks = {40, 20, 70, 30, 60, 50};
        for (int i = 0; i < 6; i++) {
            due("level(" + ticks[i] + ")", x.level(ticks[i]), 5 - i);
            due("again", x.level(ticks[i]), NO);
        }
        due("the first SPEED is left", x.gone(300), 600);
        due("none is left", x.count(1), 0);
        BeltArms y = new BeltArms();
        y.speed(1, 3);
        y.speed(300, 4);
        due("a CHANGE at 300 goes", y.level(300), 1);
        due("a CHANGE at 1 goes", y.level(1), 0);
    }

    private static void thingHasElevenAnswers() {
        BeltArms x = new BeltArms();
        x.see(4, 3, 8, 1);
        // PLACE is 2t: beats 50 to 80, 100 to 130, 150 to 180, 200 to 230
        int[] want = {4, 3, 8, 1, 1, 50, 0, 0, 50, 230, 28};
        for (int what = 0; what <= 10; what++) {
            due("thing(0, " + what + ")", x.thing(0, what), want[what]);
        }
        for (int bad : new int[] {MIN, -1, 11, 12, MAX}) {
            due("thing(0, " + bad + ")", x.thing(0, bad), OUTSIDE);
            due("place(" + bad + ", 0)", x.place(bad, 0), UNKNOWN);
            due("drop(" + bad + ")", x.drop(bad), UNKNOWN);
            due("can(0, " + bad + ", 0)", x.can(0, bad, 0), UNKNOWN);
        }
        for (int bad : new int[] {MIN, -1, 1, 19, 20, MAX}) {
            due("thing(" + bad + ", 0)", x.thing(bad, 0), UNKNOWN);
        }
        BeltArms y = withThings(20);
        due("thing(19, 5): THING 19 of 20", y.thing(19, 5), 175);
        due("place(19, 1)", y.place(19, 1), 10002);
        due("can(0, 19, 50)", y.can(0, 19, 50), 1);
        due("can(0, 20, 50)", y.can(0, 20, 50), UNKNOWN);
        due("place(20, 1)", y.place(20, 1), UNKNOWN);
        due("drop(20)", y.drop(20), UNKNOWN);
        due("drop(19)", y.drop(19), 19);
    }

    private static void armHasSevenAnswers() {
        BeltArms x = withThings(1);
        x.reach(3, 401, 459);
        x.beat(3, 6, 2);
        x.lanes(3, 7);
        int[] want = {401, 459, 6, 2, 7, 0, 0};
        for (int what = 0; what <= 6; what++) {
            due("arm(3, " + what + ")", x.arm(3, what), want[what]);
        }
        for (int bad : new int[] {MIN, -1, 7, 8, MAX}) {
            due("arm(3, " + bad + ")", x.arm(3, bad), OUTSIDE);
        }
    }

    private static void planHasFiveAnswers() {
        BeltArms x = withThings(1);
        int[] want = {1, 0, 50, 0, 1};
        for (int what = 0; what <= 4; what++) {
            due("plan(" + what + ")", x.plan(what), want[what]);
        }
        for (int bad : new int[] {MIN, -1, 5, 6, MAX}) {
            due("plan(" + bad + ")", x.plan(bad), OUTSIDE);
        }
    }

    private static void countHasNineAnswers() {
        BeltArms x = new BeltArms();
        x.see(0, 0, 0, 2);
        x.see(1, 0, 2, 2);
        x.see(0, 1, 0, 1);
        x.see(0, 2, 0, 2);
        x.speed(200, 1);
        x.set(0, 20);
        x.set(1, 6);
        int[] want = {3, 1, 20, 6, 1, 0};
        for (int what = 0; what <= 5; what++) {
            due("count(" + what + ")", x.count(what), want[what]);
        }
        for (int kind = 0; kind <= 2; kind++) {
            due("count(" + (10 + kind) + ")", x.count(10 + kind), kind);
        }
        for (int bad : new int[] {MIN, MIN + 10, -10, -1, 6, 7, 8, 9, 13, 14, 20, MAX}) {
            due("count(" + bad + ")", x.count(bad), OUTSIDE);
        }
        BeltArms y = withThings(20);
        due("none was SEEN more than once", y.count(4), 0);
        for (int i = 0; i < 20; i++) {
            y.see(1, 0, 2, 0);
            due("SEEN more than once", y.count(4), i + 1);
        }
        due("all of KIND 0", y.count(10), 20);
        due("none of KIND 2", y.count(12), 0);
    }

    private static void setHasTwoNumbers() {
        BeltArms x = new BeltArms();
        for (int bad : new int[] {MIN, -1, 2, 3, MAX}) {
            due("set(" + bad + ", 1)", x.set(bad, 1), OUTSIDE);
        }
        due("set(0, 7): NEAR may be what SHARE may not", x.set(0, 7), 3);
        due("set(0, 0): NEAR may be what SHARE may not", x.set(0, 0), 7);
        due("set(1, 5): SHARE", x.set(1, 5), 2);
        due("NEAR is not SHARE", x.count(2), 0);
        due("SHARE is not NEAR", x.count(3), 5);
        due("the number that it is", x.set(1, 5), 5);
    }

    private static void whatWasSeenStays() {
        BeltArms x = standing();
        x.see(0, 0, 10, 0);
        x.see(1, 0, 13, 0);
        x.see(0, 0, 20, 0);
        x.set(0, 0);
        due("NEAR 0: SEEN stays", x.thing(0, 4), 2);
        due("NEAR 0: none comes", x.count(0), 2);
        x.set(0, 20);
        due("NEAR 20: none goes", x.count(0), 2);
        due("NEAR 20: SEEN stays", x.thing(1, 4), 1);
        due("NEAR 20: SEEN at 1 already", x.see(1, 0, 10, 0), 1);
    }

    private static void imagesAre0And1() {
        BeltArms x = new BeltArms();
        for (int bad : new int[] {MIN, -1, 2, 3, 32, MAX}) {
            due("image(" + bad + ")", x.image(bad), OUTSIDE);
            due("restore(" + bad + ")", x.restore(bad), OUTSIDE);
        }
        due("none is kept", x.count(5), 0);
        due("image(0)", x.image(0), 1);
        due("IMAGE 0 is kept", x.count(5), 1);
        due("image(1)", x.image(1), 1);
        due("both are kept", x.count(5), 3);
        due("restore(0)", x.restore(0), 1);
        due("restore(1)", x.restore(1), 1);
        due("both are kept still", x.count(5), 3);
        for (int bad : new int[] {MIN, -1, 2, 3, 32, MAX}) {
            due("with both kept: restore(" + bad + ")", x.restore(bad), OUTSIDE);
        }
    }

    private static void nothingIsKeptAtFirst() {
        BeltArms x = new BeltArms();
        due("nothing in 0", x.restore(0), STATE);
        due("nothing in 1", x.restore(1), STATE);
        x.image(1);
        due("nothing in 0 still", x.restore(0), STATE);
        due("IMAGE 1 alone is kept", x.count(5), 2);
        due("something in 1", x.restore(1), 1);
        due("nothing in 0 still", x.restore(0), STATE);
        BeltArms y = new BeltArms();
        y.image(0);
        due("nothing in 1 still", y.restore(1), STATE);
    }

    private static void anImageTakesThePlaceOfAnother() {
        BeltArms x = withThings(20);
        x.image(0);
        x.image(1);
        x.drop(19);
        x.image(0);
        x.restore(1);
        due("IMAGE 1 is as it was kept", x.count(0), 20);
        x.restore(0);
        due("IMAGE 0 is what was kept last", x.count(0), 19);
        BeltArms y = new BeltArms();
        y.see(5, 1, 5, 1);
        y.image(0);
        y.drop(0);
        y.image(0);
        y.see(6, 1, 5, 1);
        y.restore(0);
        due("none was kept last", y.count(0), 0);
        due("none was kept last", y.thing(0, 0), UNKNOWN);
    }

    private static void theImageStays() {
        BeltArms x = withThings(2);
        x.image(1);
        for (int i = 0; i < 3; i++) {
            x.drop(0);
            x.see(9, 3, 9, 2);
            x.see(1, 0, 2, 0);
            x.speed(0, 9);
            x.speed(5, 0);
            x.reach(0, 0, 0);
            x.beat(0, 20, 19);
            x.lanes(0, 0);
            x.set(0, 0);
            x.set(1, 6);
            due("restore(1)", x.restore(1), 1);
            due("THINGS", x.count(0), 2);
            due("SEEN once", x.count(4), 0);
            due("GONE", x.gone(300), 600);
            due("CHANGES", x.count(1), 0);
            due("FROM", x.arm(0, 0), 100);
            due("TILL", x.arm(0, 1), 160);
            due("BEAT", x.arm(0, 2), 5);
            due("OFF", x.arm(0, 3), 0);
            due("LANES", x.arm(0, 4), 15);
            due("NEAR", x.count(2), 3);
            due("SHARE", x.count(3), 2);
            due("THE PLAN", x.thing(1, 5), 55);
        }
    }

    private static void allButImagesIsKept() {
        BeltArms x = new BeltArms();
        x.image(0);
        x.image(1);
        x.restore(0);
        due("IMAGE 1 is kept, though IMAGE 0 was kept before it", x.count(5), 3);
        due("IMAGE 1 can be restored", x.restore(1), 1);
        BeltArms y = withChanges(8);
        for (int i = 0; i < 20; i++) {
            y.see(0, i % 4, i, i % 3);
        }
        y.image(0);
        for (int i = 0; i < 20; i++) {
            y.drop(0);
        }
        for (int i = 1; i <= 8; i++) {
            y.level(10 * i);
        }
        y.restore(0);
        due("twenty THINGS were kept", y.count(0), 20);
        due("twenty THINGS were kept: the last", y.thing(19, 2), 19);
        due("eight CHANGES were kept", y.count(1), 8);
        due("eight CHANGES were kept: FULL", y.speed(81, 0), FULL);
        due("twenty THINGS were kept: FULL", y.see(300, 0, 0, 0), FULL);
        due("eight CHANGES were kept: the last", y.speed(80, 0), 8);
    }

    /** Each call that changes something, right between two questions about what follows from it. */
    private static void answersAreAsThingsAreNow() {
        BeltArms x = withThings(2);
        due("now", x.thing(1, 5), 55);
        x.speed(0, 4);
        due("after speed", x.thing(1, 5), 30);
        x.speed(20, 2);
        due("after a CHANGE", x.thing(1, 5), 35);
        x.level(20);
        due("after level", x.thing(1, 5), 30);
        x.reach(0, 101, 161);
        due("after reach", x.thing(0, 5), 30);
        x.beat(0, 4, 0);
        due("after beat", x.thing(0, 5), 28);
        x.image(0);
        x.lanes(0, 0);
        due("after lanes", x.thing(0, 5), 50);
        x.drop(0);
        due("after drop", x.takes(1, 50), 0);
        due("after drop", x.takes(1, 55), NONE);
        x.restore(0);
        due("after restore", x.thing(0, 5), 28);
        x.see(0, 0, 0, 0);
        due("after see", x.plan(0), 3);
        due("after see", x.tray(0, 0), 2);
        x.set(1, 1);
        due("after set", x.tray(0, 0), 3);
        due("after set", x.thing(1, 7), 0);
    }
}
