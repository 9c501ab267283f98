/**
 * Boundaries of TICKS, SPEED, CHANGES, GONE, SIGHTS and THINGS (the document's section 1):
 * each sentence that names one has a test of its own.
 */
public final class BeltBoundariesTest extends Checks {
    public static void main(String[] args) {
        belt();
        sights();
        things();
        end();
    }

    // ======== 1: TICKS, SPEED, CHANGES, GONE

    private static void belt() {
        ticksAre0To300();
        speedIs0To9();
        speedIs2AtFirst();
        upTo8Changes();
        changesBeginFrom1To300();
        changesLastTillTheNext();
        noTwoChangesBeginAtOneTick();
        aSpeedThatIsAlreadySoIsAChange();
        goneAddsTheTicksBefore();
        goneIs0AtTick0();
    }

    private static void ticksAre0To300() {
        BeltArms x = new BeltArms();
        due("TICK 0: see", x.see(0, 0, 0, 0), 0);
        due("TICK 300: see", x.see(300, 1, 0, 0), 1);
        due("TICK 0: speed", x.speed(0, 2), 2);
        due("TICK 300: speed", x.speed(300, 2), 2);
        due("TICK 300: level", x.level(300), 0);
        due("TICK 0: gone", x.gone(0), 0);
        due("TICK 300: gone", x.gone(300), 600);
        due("TICK 0: place", x.place(0, 0), 10000);
        due("TICK 300: place", x.place(0, 300), 10600);
        due("TICK 0: can", x.can(0, 0, 0), 0);
        due("TICK 300: can", x.can(0, 0, 300), 0);
        due("TICK 0: takes", x.takes(0, 0), NONE);
        due("TICK 300: takes", x.takes(0, 300), NONE);
        for (int bad : new int[] {MIN, -300, -1, 301, 302, 600, MAX}) {
            due("TICK " + bad + ": see", x.see(bad, 0, 0, 0), OUTSIDE);
            due("TICK " + bad + ": speed", x.speed(bad, 2), OUTSIDE);
            due("TICK " + bad + ": level", x.level(bad), OUTSIDE);
            due("TICK " + bad + ": gone", x.gone(bad), OUTSIDE);
            due("TICK " + bad + ": place", x.place(0, bad), OUTSIDE);
            due("TICK " + bad + ": can", x.can(0, 0, bad), OUTSIDE);
            due("TICK " + bad + ": takes", x.takes(0, bad), OUTSIDE);
        }
    }

    private static void speedIs0To9() {
        BeltArms x = new BeltArms();
        due("SPEED 0, the first", x.speed(0, 0), 2);
        due("SPEED 9, the first", x.speed(0, 9), 0);
        due("SPEED 0, a CHANGE", x.speed(7, 0), 9);
        due("SPEED 9, a CHANGE", x.speed(7, 9), 0);
        for (int bad : new int[] {MIN, -9, -1, 10, 11, MAX}) {
            due("SPEED " + bad + ", the first", x.speed(0, bad), OUTSIDE);
            due("SPEED " + bad + ", a CHANGE that is there", x.speed(7, bad), OUTSIDE);
            due("SPEED " + bad + ", a new CHANGE", x.speed(8, bad), OUTSIDE);
        }
        due("SPEED: the least belt", standing().gone(300), 0);
        x.speed(7, 9);
        due("SPEED: the fastest belt", x.gone(300), 2700);
    }

    private static void speedIs2AtFirst() {
        for (int tick : new int[] {0, 1, 150, 299, 300}) {
            due("SPEED 2 at first, at TICK " + tick, new BeltArms().speed(tick, 5), 2);
        }
        due("SPEED 2 at first from TICK 0 on", new BeltArms().gone(1), 2);
        due("SPEED 2 at first: no CHANGE", new BeltArms().count(1), 0);
    }

    private static void upTo8Changes() {
        due("CHANGES: none", withChanges(0).count(1), 0);
        due("CHANGES: one", withChanges(1).count(1), 1);
        due("CHANGES: eight", withChanges(8).count(1), 8);
        due("CHANGES: the eighth is taken", withChanges(7).speed(300, 9), 7);
        for (int tick : new int[] {1, 9, 11, 45, 79, 81, 300}) {
            due("CHANGES: a ninth at " + tick, withChanges(8).speed(tick, 0), FULL);
        }
        for (int i = 1; i <= 8; i++) {
            BeltArms x = withChanges(8);
            due("CHANGES: TICK " + 10 * i + " of the eight", x.speed(10 * i, 0), i);
            due("CHANGES: they are eight still", x.count(1), 8);
            due("CHANGES: told anew", x.gone(10 * i + 1) - x.gone(10 * i), 0);
        }
        BeltArms x = withChanges(8);
        due("CHANGES: TICK 0 is none of them", x.speed(0, 9), 2);
        due("CHANGES: TICK 0 is none of them", x.count(1), 8);
        due("CHANGES: one of the eight goes", x.level(40), 7);
        due("CHANGES: an eighth again", x.speed(41, 9), 3);
        due("CHANGES: and no ninth", x.speed(40, 9), FULL);
    }

    private static void changesBeginFrom1To300() {
        BeltArms x = new BeltArms();
        due("a CHANGE at 1", x.speed(1, 5), 2);
        due("a CHANGE at 1: the TICK before", x.gone(1), 2);
        due("a CHANGE at 1: its TICK", x.gone(2), 7);
        due("a CHANGE at 1: to the end", x.gone(300), 2 + 299 * 5);
        due("a CHANGE at 300", x.speed(300, 9), 5);
        due("a CHANGE at 300 adds to no GONE", x.gone(300), 2 + 299 * 5);
        due("a CHANGE at 300 is there", x.count(1), 2);
        due("a CHANGE at 300: what it was", x.speed(300, 8), 9);
        due("a CHANGE at 299", x.speed(299, 0), 5);
        due("a CHANGE at 299: its TICK", x.gone(300), 2 + 298 * 5);
    }

    private static void changesLastTillTheNext() {
        BeltArms x = new BeltArms();
        x.speed(20, 7);
        due("told before another", x.speed(10, 4), 2);
        due("it lasts till the next: at 19", x.gone(20) - x.gone(19), 4);
        due("it lasts till the next: at 20", x.gone(21) - x.gone(20), 7);
        due("between two", x.speed(15, 1), 4);
        due("what is before stays", x.gone(15), 20 + 5 * 4);
        due("till the next", x.gone(20), 20 + 5 * 4 + 5);
        due("what is behind stays", x.gone(30), 20 + 5 * 4 + 5 + 70);
        due("next to one another", x.speed(16, 9), 1);
        due("one TICK long", x.gone(17), 20 + 5 * 4 + 1 + 9);
        due("the first one till the first CHANGE", x.speed(0, 3), 2);
        due("the first one till the first CHANGE", x.gone(11), 30 + 4);
        due("the last one to the end", x.gone(300) - x.gone(299), 7);
        due("the last one to the end", x.speed(300, 0), 7);
    }

    private static void noTwoChangesBeginAtOneTick() {
        BeltArms x = new BeltArms();
        due("at one TICK: the first told", x.speed(50, 4), 2);
        due("at one TICK: told again", x.speed(50, 6), 4);
        due("at one TICK: one CHANGE", x.count(1), 1);
        due("at one TICK: the last told holds", x.gone(51), 106);
        due("at one TICK: it goes whole", x.level(50), 0);
        due("at one TICK: it goes whole", x.gone(51), 102);
        due("at one TICK: none is left", x.level(50), NO);
    }

    private static void aSpeedThatIsAlreadySoIsAChange() {
        BeltArms x = new BeltArms();
        due("the same SPEED", x.speed(50, 2), 2);
        due("the same SPEED: a CHANGE", x.count(1), 1);
        due("the same SPEED, told there again", x.speed(50, 2), 2);
        due("the same SPEED, told there again: no other", x.count(1), 1);
        x.speed(0, 7);
        due("the same SPEED: it holds from its TICK on", x.gone(51) - x.gone(50), 2);
        due("the same SPEED: it can go", x.level(50), 0);
        due("the same SPEED: it is gone", x.gone(51) - x.gone(50), 7);
        due("a ninth of the SPEED before it", withChanges(8).speed(85, 8), FULL);
        due("a ninth of the first SPEED", withChanges(8).speed(5, 2), FULL);
        due("one of the eight, the SPEED that it has", withChanges(8).speed(80, 8), 8);
        due("the first one, the SPEED that it has", withChanges(8).speed(0, 2), 2);
    }

    private static void goneAddsTheTicksBefore() {
        BeltArms x = new BeltArms();
        for (int i = 1; i <= 8; i++) {
            x.speed(i, i + 1);
        }
        // SPEEDS 2, 2, 3, 4, 5, 6, 7, 8, 9, 9, ..
        int[] gone = {0, 2, 4, 7, 11, 16, 22, 29, 37, 46, 55};
        for (int tick = 0; tick <= 10; tick++) {
            due("GONE at " + tick, x.gone(tick), gone[tick]);
        }
        due("GONE at 300", x.gone(300), 37 + 292 * 9);
    }

    private static void goneIs0AtTick0() {
        BeltArms x = new BeltArms();
        for (int speed = 0; speed <= 9; speed++) {
            x.speed(0, speed);
            due("GONE at TICK 0 with SPEED " + speed, x.gone(0), 0);
            due("GONE at TICK 1 with SPEED " + speed, x.gone(1), speed);
        }
    }

    // ======== 1: SIGHTS

    private static void sights() {
        sightsHaveBounds();
        nearIs0To20();
        nearIs3AtFirst();
        nearGoesEitherWay();
        nearOfPlacesThatNoSightHas();
        aSightHasItsLaneAndKind();
        aThingIsSeenOnceATick();
        theNearestIsMeant();
        theLeastNumberIsMeant();
    }

    private static void sightsHaveBounds() {
        BeltArms x = new BeltArms();
        due("the least SIGHT", x.see(0, 0, 0, 0), 0);
        due("the greatest SIGHT", x.see(300, 3, 60, 2), 1);
        int[] want = {300, 3, 60, 2, 1};
        for (int what = 0; what <= 4; what++) {
            due("the least SIGHT: " + what, x.thing(0, what), what == 4 ? 1 : 0);
            due("the greatest SIGHT: " + what, x.thing(1, what), want[what]);
        }
        for (int bad : new int[] {MIN, -1, 4, 5, MAX}) {
            due("LANE " + bad, x.see(0, bad, 0, 0), OUTSIDE);
        }
        for (int bad : new int[] {MIN, -1, 61, 62, MAX}) {
            due("PLACE " + bad, x.see(0, 0, bad, 0), OUTSIDE);
        }
        for (int bad : new int[] {MIN, -1, 3, 4, MAX}) {
            due("KIND " + bad, x.see(0, 0, 0, bad), OUTSIDE);
        }
        due("no SIGHT of these", x.count(0), 2);
        due("no SIGHT of these", x.count(4), 0);
    }

    /** A belt that stands, and a THING at PLACE 30: is a SIGHT so far away of it? */
    private static int sightAway(int near, int away) {
        BeltArms x = standing();
        x.set(0, near);
        x.see(0, 0, 30, 0);
        return x.see(1, 0, 30 + away, 0);
    }

    private static void nearIs0To20() {
        due("NEAR 0, 0 away", sightAway(0, 0), 0);
        due("NEAR 0, 1 behind", sightAway(0, 1), 1);
        due("NEAR 0, 1 before", sightAway(0, -1), 1);
        due("NEAR 1, 1 behind", sightAway(1, 1), 0);
        due("NEAR 1, 2 before", sightAway(1, -2), 1);
        due("NEAR 20, 20 behind", sightAway(20, 20), 0);
        due("NEAR 20, 20 before", sightAway(20, -20), 0);
        due("NEAR 20, 21 behind", sightAway(20, 21), 1);
        due("NEAR 20, 21 before", sightAway(20, -21), 1);
        BeltArms x = new BeltArms();
        for (int bad : new int[] {MIN, -20, -1, 21, 22, MAX}) {
            due("NEAR " + bad, x.set(0, bad), OUTSIDE);
        }
        due("NEAR 20", x.set(0, 20), 3);
        due("NEAR 0", x.set(0, 0), 20);
        due("NEAR is 0", x.count(2), 0);
    }

    private static void nearIs3AtFirst() {
        due("NEAR at first", new BeltArms().count(2), 3);
        BeltArms x = new BeltArms();
        x.see(0, 0, 30, 0);
        due("NEAR at first: 3 away", x.see(1, 0, 35, 0), 0);
        due("NEAR at first: 4 away", x.see(2, 0, 38, 0), 1);
    }

    private static void nearGoesEitherWay() {
        for (int away = -6; away <= 6; away++) {
            due("NEAR 3, away " + away, sightAway(3, away), away < -3 || away > 3 ? 1 : 0);
        }
    }

    /** A THING's PLACE goes below 0 and above 60, where no SIGHT can be, and may be NEAR all the same. */
    private static void nearOfPlacesThatNoSightHas() {
        BeltArms x = new BeltArms();
        x.speed(0, 1);
        x.see(100, 0, 10, 0);
        due("PLACE -4 is not NEAR 0", x.see(86, 0, 0, 0), 1);
        due("PLACE -3 is NEAR 0", x.see(87, 1, 0, 0), 2);
        BeltArms y = new BeltArms();
        y.speed(0, 1);
        y.see(100, 0, 10, 0);
        due("PLACE -3 is NEAR 0", y.see(87, 0, 0, 0), 0);
        due("PLACE 63 is NEAR 60", y.see(153, 0, 60, 0), 0);
        due("PLACE 64 is not NEAR 60", y.see(154, 0, 60, 0), 1);
        due("what it came with stays", y.thing(0, 2), 10);
        BeltArms z = new BeltArms();
        z.speed(0, 9);
        z.set(0, 20);
        z.see(300, 0, 0, 0);
        due("PLACE -2700 is far from 0", z.see(0, 0, 0, 0), 1);
        z.drop(0);
        due("PLACE 2700 is far from 60", z.see(300, 0, 60, 0), 1);
    }

    private static void aSightHasItsLaneAndKind() {
        for (int lane = 0; lane <= 3; lane++) {
            for (int kind = 0; kind <= 2; kind++) {
                BeltArms x = new BeltArms();
                x.see(0, 1, 10, 1);
                int want = lane == 1 && kind == 1 ? 0 : 1;
                due("of LANE " + lane + ", KIND " + kind, x.see(1, lane, 12, kind), want);
            }
        }
        BeltArms x = standing();
        x.see(0, 0, 10, 0);
        x.see(0, 1, 12, 0);
        x.see(0, 0, 12, 1);
        due("a nearer one of another LANE, one of another KIND", x.see(1, 0, 12, 0), 0);
    }

    private static void aThingIsSeenOnceATick() {
        BeltArms x = standing();
        x.see(100, 0, 30, 0);
        due("the TICK by which it came", x.see(100, 0, 30, 0), 1);
        due("the TICK before", x.see(99, 0, 30, 0), 0);
        due("the TICK behind", x.see(101, 0, 30, 0), 0);
        due("a later SIGHT's TICK: the other one", x.see(101, 0, 30, 0), 1);
        due("both were SEEN then", x.see(101, 0, 30, 0), 2);
        due("SEEN at", x.thing(0, 4), 3);
        due("SEEN at", x.thing(1, 4), 2);
        due("SEEN at", x.thing(2, 4), 1);
        BeltArms y = standing();
        for (int tick = 300; tick >= 0; tick--) {
            due("SEEN at TICK " + tick, y.see(tick, 0, 30, 0), 0);
        }
        due("SEEN at all TICKS", y.thing(0, 4), 301);
        due("it came by TICK 300", y.thing(0, 0), 300);
        for (int tick : new int[] {0, 1, 31, 32, 63, 64, 127, 128, 255, 256, 299, 300}) {
            due("SEEN at TICK " + tick + " already", y.see(tick, 0, 30, 0), 1);
        }
    }

    private static void theNearestIsMeant() {
        BeltArms x = standing();
        x.set(0, 20);
        x.see(0, 0, 20, 0);
        x.see(0, 0, 28, 0);
        x.see(0, 0, 33, 0);
        due("0 away", x.see(1, 0, 28, 0), 1);
        due("3 behind it, 2 before it", x.see(2, 0, 31, 0), 2);
        due("2 behind it, 3 before it", x.see(3, 0, 30, 0), 1);
        due("the nearest was SEEN then: the next", x.see(3, 0, 30, 0), 2);
        due("and the next", x.see(3, 0, 30, 0), 0);
        due("and a new one", x.see(3, 0, 30, 0), 3);
    }

    private static void theLeastNumberIsMeant() {
        BeltArms x = standing();
        x.see(0, 0, 32, 0);
        x.see(0, 0, 28, 0);
        x.see(0, 0, 32, 0);
        due("as near: 32 and 28 to 30", x.see(1, 0, 30, 0), 0);
        due("as near: 28 and 32 to 30", x.see(1, 0, 30, 0), 1);
        due("as near: the last", x.see(1, 0, 30, 0), 2);
        x.drop(0);
        due("numbers as they are now: 28 and 32", x.see(2, 0, 30, 0), 0);
        due("numbers as they are now", x.thing(0, 2), 28);
        BeltArms y = standing();
        for (int i = 0; i < 20; i++) {
            y.see(0, 0, 30, 0);
        }
        for (int i = 0; i < 20; i++) {
            due("twenty as near ones", y.see(1, 0, 30, 0), i);
        }
    }

    // ======== 1: THINGS

    private static void things() {
        upTo20Things();
        thoseBehindAreOneLess();
        aThingKeepsWhatItCameWith();
        seenAtTheTicksOfAllSights();
        placesBeforeItsTick();
        placesFollowTheBelt();
    }

    private static void upTo20Things() {
        due("THINGS: none", withThings(0).count(0), 0);
        due("THINGS: none, so THING 0", withThings(0).thing(0, 0), UNKNOWN);
        due("THINGS: the twentieth", withThings(19).see(0, 0, 0, 0), 19);
        BeltArms x = withThings(20);
        due("THINGS: twenty", x.count(0), 20);
        due("THINGS: a twenty-first", x.see(0, 0, 0, 0), FULL);
        due("THINGS: a twenty-first elsewhere", x.see(300, 3, 60, 2), FULL);
        due("THINGS: twenty, one SEEN again", x.see(1, 0, 2, 0), 0);
        due("THINGS: THING 19", x.thing(19, 0), 0);
        due("THINGS: no THING 20", x.thing(20, 0), UNKNOWN);
        due("THINGS: one goes", x.drop(19), 19);
        due("THINGS: a twentieth again", x.see(300, 3, 60, 2), 19);
        due("THINGS: and no more", x.see(300, 3, 60, 1), FULL);
    }

    private static void thoseBehindAreOneLess() {
        for (int gone : new int[] {0, 1, 10, 18, 19}) {
            BeltArms x = new BeltArms();
            for (int i = 0; i < 20; i++) {
                x.see(i, i % 4, 3 * i, i % 3);
            }
            due("drop(" + gone + ")", x.drop(gone), 19);
            for (int i = 0; i < 19; i++) {
                int was = i < gone ? i : i + 1;
                due("TICK of " + i, x.thing(i, 0), was);
                due("LANE of " + i, x.thing(i, 1), was % 4);
                due("PLACE of " + i, x.thing(i, 2), 3 * was);
                due("KIND of " + i, x.thing(i, 3), was % 3);
            }
            due("THING 19 is not", x.thing(19, 0), UNKNOWN);
        }
        BeltArms y = standing();
        y.see(10, 0, 30, 0);
        y.see(10, 1, 30, 0);
        y.see(11, 1, 30, 0);
        y.see(12, 1, 30, 0);
        y.drop(0);
        due("SEEN goes along", y.thing(0, 4), 3);
        due("SEEN at 12 already", y.see(12, 1, 30, 0), 1);
        due("not SEEN at 13", y.see(13, 1, 30, 0), 0);
        BeltArms x = withThings(1);
        due("the only one goes", x.drop(0), 0);
        due("there is none", x.drop(0), UNKNOWN);
        due("THING 0 anew", x.see(5, 1, 5, 1), 0);
        due("THING 0 anew was SEEN once", x.thing(0, 4), 1);
        due("THING 0 anew was not SEEN before", x.see(0, 1, 0, 1), 1);
    }

    private static void aThingKeepsWhatItCameWith() {
        BeltArms x = new BeltArms();
        x.see(200, 2, 30, 1);
        due("an earlier TICK, told later", x.see(190, 2, 12, 1), 0);
        due("a later TICK", x.see(210, 2, 48, 1), 0);
        int[] want = {200, 2, 30, 1, 3};
        for (int what = 0; what <= 4; what++) {
            due("what it came with: " + what, x.thing(0, what), want[what]);
        }
        due("its PLACE follows from the SIGHT that was told first", x.place(0, 200), 10030);
        due("its PLACE follows from the SIGHT that was told first", x.place(0, 190), 10010);
        due("its PLACE follows from the SIGHT that was told first", x.place(0, 210), 10050);
    }

    private static void seenAtTheTicksOfAllSights() {
        BeltArms x = new BeltArms();
        x.see(10, 0, 0, 0);
        x.see(20, 0, 20, 0);
        x.see(15, 0, 10, 0);
        due("SEEN at three", x.thing(0, 4), 3);
        due("one THING was SEEN more than once", x.count(4), 1);
        due("SEEN at 15: a new one", x.see(15, 0, 10, 0), 1);
        due("not SEEN at 16", x.see(16, 0, 12, 0), 0);
        due("one THING was SEEN more than once", x.count(4), 1);
        due("the other was not SEEN at 16", x.see(16, 0, 12, 0), 1);
        due("two THINGS were SEEN more than once", x.count(4), 2);
    }

    private static void placesBeforeItsTick() {
        BeltArms x = new BeltArms();
        x.speed(0, 9);
        x.see(300, 0, 0, 0);
        x.see(0, 0, 60, 0);
        due("the least PLACE", x.place(0, 0), 10000 - 2700);
        due("the greatest PLACE", x.place(1, 300), 10000 + 2760);
        due("at its TICK", x.place(0, 300), 10000);
        due("at its TICK", x.place(1, 0), 10060);
        due("a TICK before", x.place(0, 299), 10000 - 9);
        due("a TICK behind", x.place(1, 1), 10069);
    }

    private static void placesFollowTheBelt() {
        BeltArms x = new BeltArms();
        x.see(100, 0, 50, 0);
        x.speed(99, 7);
        due("a CHANGE before its TICK: at it", x.place(0, 100), 10050);
        due("a CHANGE before its TICK: before", x.place(0, 99), 10043);
        due("a CHANGE before its TICK: behind", x.place(0, 101), 10057);
        x.speed(100, 0);
        due("a CHANGE at its TICK: before", x.place(0, 99), 10043);
        due("a CHANGE at its TICK: behind", x.place(0, 101), 10050);
        x.level(99);
        due("it goes: before", x.place(0, 99), 10048);
        due("it goes: behind", x.place(0, 300), 10050);
        due("SIGHTS by the belt as it is now", x.see(300, 0, 53, 0), 0);
    }
}
