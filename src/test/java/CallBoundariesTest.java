/**
 * Boundaries of the calls themselves, promises 1 to 20: what each can be asked for, and its answers:
 * each sentence that names one has a test of its own.
 */
public final class CallBoundariesTest extends Checks {
    public static void main(String[] args) {
        newObject();
        speedAnswersWhatItWas();
        levelAnswersHowManyAreLeft();
        thingHasElevenAnswers();
        armHasSevenAnswers();
        planHasFiveAnswers();
        countHasNineAnswers();
        setHasTwoNumbers();
        whatWasSeenStays();
        imagesAre0And1();
        nothingIsKeptAtFirst();
        anImageTakesThePlaceOfAnother();
        theImageStays();
        allButImagesIsKept();
        asMuchAsThereCanBeIsKept();
        answersAreAsThingsAreNow();
        end();
    }

    private static void newObject() {
        BeltArms x = new BeltArms();
        int[] want = {0, 0, 3, 2, 0, 0};
        for (int what = 0; what <= 5; what++) {
            due("new: count(" + what + ")", x.count(what), want[what]);
        }
        for (int tick = 0; tick <= 300; tick++) {
            due("new: gone(" + tick + ")", x.gone(tick), 2 * tick);
        }
        BeltArms y = new BeltArms();
        x.speed(0, 9);
        x.see(0, 0, 0, 0);
        x.image(0);
        due("one object knows nothing of another: SPEED", y.gone(1), 2);
        due("one object knows nothing of another: THINGS", y.count(0), 0);
        due("one object knows nothing of another: IMAGES", y.restore(0), STATE);
    }

    private static void speedAnswersWhatItWas() {
        BeltArms x = new BeltArms();
        due("the first one", x.speed(0, 5), 2);
        due("the first one, again", x.speed(0, 6), 5);
        due("a new CHANGE: what the first one was", x.speed(100, 7), 6);
        due("a CHANGE that is there", x.speed(100, 8), 7);
        due("just behind it", x.speed(101, 1), 8);
        due("just before it", x.speed(99, 1), 6);
        due("the last TICK", x.speed(300, 1), 1);
        due("the first one is as it was", x.speed(0, 0), 6);
    }

    private static void levelAnswersHowManyAreLeft() {
        BeltArms x = withChanges(8);
        due("none begins just before", x.level(9), NO);
        due("none begins just behind", x.level(11), NO);
        due("none begins at 1", x.level(1), NO);
        due("none begins at 300", x.level(300), NO);
        due("TICK 0 is no CHANGE's", x.level(0), OUTSIDE);
        due("the first of eight", x.level(10), 7);
        due("what was before it goes on", x.gone(20), 40);
        due("what is behind it stays", x.gone(30), 60);
        due("the last of seven", x.level(80), 6);
        due("what was before it goes on", x.gone(91) - x.gone(90), 7);
        int[] ticks = {40, 20, 70, 30, 60, 50};
        for (int i = 0; i < 6; i++) {
            due("level(" + ticks[i] + ")", x.level(ticks[i]), 5 - i);
            due("again", x.level(ticks[i]), NO);
        }
        due("the first SPEED is left", x.gone(300), 600);
        due("none is left", x.count(1), 0);
        BeltArms y = new BeltArms();
        y.speed(1, 3);
        y.speed(300, 4);
        due("a CHANGE at 300 goes", y.level(300), 1);
        due("a CHANGE at 1 goes", y.level(1), 0);
    }

    private static void thingHasElevenAnswers() {
        BeltArms x = new BeltArms();
        x.see(4, 3, 8, 1);
        // PLACE is 2t: beats 50 to 80, 100 to 130, 150 to 180, 200 to 230
        int[] want = {4, 3, 8, 1, 1, 50, 0, 0, 50, 230, 28};
        for (int what = 0; what <= 10; what++) {
            due("thing(0, " + what + ")", x.thing(0, what), want[what]);
        }
        for (int bad : new int[] {MIN, -1, 11, 12, MAX}) {
            due("thing(0, " + bad + ")", x.thing(0, bad), OUTSIDE);
            due("place(" + bad + ", 0)", x.place(bad, 0), UNKNOWN);
            due("drop(" + bad + ")", x.drop(bad), UNKNOWN);
            due("can(0, " + bad + ", 0)", x.can(0, bad, 0), UNKNOWN);
        }
        for (int bad : new int[] {MIN, -1, 1, 19, 20, MAX}) {
            due("thing(" + bad + ", 0)", x.thing(bad, 0), UNKNOWN);
        }
        BeltArms y = withThings(20);
        due("thing(19, 5): THING 19 of 20", y.thing(19, 5), 175);
        due("place(19, 1)", y.place(19, 1), 10002);
        due("can(0, 19, 50)", y.can(0, 19, 50), 1);
        due("can(0, 20, 50)", y.can(0, 20, 50), UNKNOWN);
        due("place(20, 1)", y.place(20, 1), UNKNOWN);
        due("drop(20)", y.drop(20), UNKNOWN);
        due("drop(19)", y.drop(19), 19);
    }

    private static void armHasSevenAnswers() {
        BeltArms x = withThings(1);
        x.reach(3, 401, 459);
        x.beat(3, 6, 2);
        x.lanes(3, 7);
        int[] want = {401, 459, 6, 2, 7, 0, 0};
        for (int what = 0; what <= 6; what++) {
            due("arm(3, " + what + ")", x.arm(3, what), want[what]);
        }
        for (int bad : new int[] {MIN, -1, 7, 8, MAX}) {
            due("arm(3, " + bad + ")", x.arm(3, bad), OUTSIDE);
        }
    }

    private static void planHasFiveAnswers() {
        BeltArms x = withThings(1);
        int[] want = {1, 0, 50, 0, 1};
        for (int what = 0; what <= 4; what++) {
            due("plan(" + what + ")", x.plan(what), want[what]);
        }
        for (int bad : new int[] {MIN, -1, 5, 6, MAX}) {
            due("plan(" + bad + ")", x.plan(bad), OUTSIDE);
        }
    }

    private static void countHasNineAnswers() {
        BeltArms x = new BeltArms();
        x.see(0, 0, 0, 2);
        x.see(1, 0, 2, 2);
        x.see(0, 1, 0, 1);
        x.see(0, 2, 0, 2);
        x.speed(200, 1);
        x.set(0, 20);
        x.set(1, 6);
        int[] want = {3, 1, 20, 6, 1, 0};
        for (int what = 0; what <= 5; what++) {
            due("count(" + what + ")", x.count(what), want[what]);
        }
        for (int kind = 0; kind <= 2; kind++) {
            due("count(" + (10 + kind) + ")", x.count(10 + kind), kind);
        }
        for (int bad : new int[] {MIN, MIN + 10, -10, -1, 6, 7, 8, 9, 13, 14, 20, MAX}) {
            due("count(" + bad + ")", x.count(bad), OUTSIDE);
        }
        BeltArms y = withThings(20);
        due("none was SEEN more than once", y.count(4), 0);
        for (int i = 0; i < 20; i++) {
            y.see(1, 0, 2, 0);
            due("SEEN more than once", y.count(4), i + 1);
        }
        due("all of KIND 0", y.count(10), 20);
        due("none of KIND 2", y.count(12), 0);
    }

    private static void setHasTwoNumbers() {
        BeltArms x = new BeltArms();
        for (int bad : new int[] {MIN, -1, 2, 3, MAX}) {
            due("set(" + bad + ", 1)", x.set(bad, 1), OUTSIDE);
        }
        due("set(0, 7): NEAR may be what SHARE may not", x.set(0, 7), 3);
        due("set(0, 0): NEAR may be what SHARE may not", x.set(0, 0), 7);
        due("set(1, 5): SHARE", x.set(1, 5), 2);
        due("NEAR is not SHARE", x.count(2), 0);
        due("SHARE is not NEAR", x.count(3), 5);
        due("the number that it is", x.set(1, 5), 5);
    }

    private static void whatWasSeenStays() {
        BeltArms x = standing();
        x.see(0, 0, 10, 0);
        x.see(1, 0, 13, 0);
        x.see(0, 0, 20, 0);
        x.set(0, 0);
        due("NEAR 0: SEEN stays", x.thing(0, 4), 2);
        due("NEAR 0: none comes", x.count(0), 2);
        x.set(0, 20);
        due("NEAR 20: none goes", x.count(0), 2);
        due("NEAR 20: SEEN stays", x.thing(1, 4), 1);
        due("NEAR 20: SEEN at 1 already", x.see(1, 0, 10, 0), 1);
    }

    private static void imagesAre0And1() {
        BeltArms x = new BeltArms();
        for (int bad : new int[] {MIN, -1, 2, 3, 32, MAX}) {
            due("image(" + bad + ")", x.image(bad), OUTSIDE);
            due("restore(" + bad + ")", x.restore(bad), OUTSIDE);
        }
        due("none is kept", x.count(5), 0);
        due("image(0)", x.image(0), 1);
        due("IMAGE 0 is kept", x.count(5), 1);
        due("image(1)", x.image(1), 1);
        due("both are kept", x.count(5), 3);
        due("restore(0)", x.restore(0), 1);
        due("restore(1)", x.restore(1), 1);
        due("both are kept still", x.count(5), 3);
        for (int bad : new int[] {MIN, -1, 2, 3, 32, MAX}) {
            due("with both kept: restore(" + bad + ")", x.restore(bad), OUTSIDE);
        }
    }

    private static void nothingIsKeptAtFirst() {
        BeltArms x = new BeltArms();
        due("nothing in 0", x.restore(0), STATE);
        due("nothing in 1", x.restore(1), STATE);
        x.image(1);
        due("nothing in 0 still", x.restore(0), STATE);
        due("IMAGE 1 alone is kept", x.count(5), 2);
        due("something in 1", x.restore(1), 1);
        due("nothing in 0 still", x.restore(0), STATE);
        BeltArms y = new BeltArms();
        y.image(0);
        due("nothing in 1 still", y.restore(1), STATE);
    }

    private static void anImageTakesThePlaceOfAnother() {
        BeltArms x = withThings(20);
        x.image(0);
        x.image(1);
        x.drop(19);
        x.image(0);
        x.restore(1);
        due("IMAGE 1 is as it was kept", x.count(0), 20);
        x.restore(0);
        due("IMAGE 0 is what was kept last", x.count(0), 19);
        BeltArms y = new BeltArms();
        y.see(5, 1, 5, 1);
        y.image(0);
        y.drop(0);
        y.image(0);
        y.see(6, 1, 5, 1);
        y.restore(0);
        due("none was kept last", y.count(0), 0);
        due("none was kept last", y.thing(0, 0), UNKNOWN);
    }

    private static void theImageStays() {
        BeltArms x = withThings(2);
        x.image(1);
        for (int i = 0; i < 3; i++) {
            x.drop(0);
            x.see(9, 3, 9, 2);
            x.see(1, 0, 2, 0);
            x.speed(0, 9);
            x.speed(5, 0);
            x.reach(0, 0, 0);
            x.beat(0, 20, 19);
            x.lanes(0, 0);
            x.set(0, 0);
            x.set(1, 6);
            due("restore(1)", x.restore(1), 1);
            due("THINGS", x.count(0), 2);
            due("SEEN once", x.count(4), 0);
            due("GONE", x.gone(300), 600);
            due("CHANGES", x.count(1), 0);
            due("FROM", x.arm(0, 0), 100);
            due("TILL", x.arm(0, 1), 160);
            due("BEAT", x.arm(0, 2), 5);
            due("OFF", x.arm(0, 3), 0);
            due("LANES", x.arm(0, 4), 15);
            due("NEAR", x.count(2), 3);
            due("SHARE", x.count(3), 2);
            due("THE PLAN", x.thing(1, 5), 55);
        }
    }

    private static void allButImagesIsKept() {
        BeltArms x = new BeltArms();
        x.image(0);
        x.image(1);
        x.restore(0);
        due("IMAGE 1 is kept, though IMAGE 0 was kept before it", x.count(5), 3);
        due("IMAGE 1 can be restored", x.restore(1), 1);
    }

    /** As much as there can be is kept, and all of it is told anew before it is restored. */
    private static void asMuchAsThereCanBeIsKept() {
        BeltArms x = withChanges(8);
        x.speed(0, 9);
        for (int i = 0; i < 20; i++) {
            x.see(0, i % 4, i, i % 3);
        }
        x.image(0);
        for (int i = 1; i <= 8; i++) {
            x.level(10 * i);
            x.speed(10 * i + 1, 0);
        }
        x.speed(0, 1);
        for (int i = 0; i < 20; i++) {
            x.drop(0);
        }
        for (int i = 0; i < 20; i++) {
            x.see(200, (i + 1) % 4, 60 - i, (i + 1) % 3);
        }
        due("twenty others", x.thing(19, 2), 41);
        x.restore(0);
        due("twenty THINGS were kept: FULL", x.see(300, 0, 0, 0), FULL);
        due("eight CHANGES were kept: FULL", x.speed(81, 0), FULL);
        for (int i = 0; i < 20; i++) {
            int[] want = {0, i % 4, i, i % 3, 1};
            for (int what = 0; what <= 4; what++) {
                due("kept: thing(" + i + ", " + what + ")", x.thing(i, what), want[what]);
            }
            due("kept: SEEN at 0, so a new one", x.see(0, i % 4, i, i % 3), FULL);
        }
        due("kept: the first SPEED", x.speed(0, 9), 9);
        for (int i = 8; i >= 1; i--) {
            due("kept: the SPEED from " + 10 * i, x.speed(10 * i, i), i);
            due("kept: the CHANGE at " + 10 * i, x.level(10 * i), i - 1);
        }
        due("kept: the first SPEED", x.gone(300), 2700);
    }

    /** Each call that changes something, right between two questions about what follows from it. */
    private static void answersAreAsThingsAreNow() {
        BeltArms x = withThings(2);
        due("now", x.thing(1, 5), 55);
        x.speed(0, 4);
        due("after speed", x.thing(1, 5), 30);
        x.speed(20, 2);
        due("after a CHANGE", x.thing(1, 5), 35);
        x.level(20);
        due("after level", x.thing(1, 5), 30);
        x.reach(0, 101, 161);
        due("after reach", x.thing(0, 5), 30);
        x.beat(0, 4, 0);
        due("after beat", x.thing(0, 5), 28);
        x.image(0);
        x.lanes(0, 0);
        due("after lanes", x.thing(0, 5), 50);
        x.drop(0);
        due("after drop", x.takes(1, 50), 0);
        due("after drop", x.takes(1, 55), NONE);
        x.restore(0);
        due("after restore", x.thing(0, 5), 28);
        x.see(0, 0, 0, 0);
        due("after see", x.plan(0), 3);
        due("after see", x.tray(0, 0), 2);
        x.set(1, 1);
        due("after set", x.tray(0, 0), 3);
        due("after set", x.thing(1, 7), 0);
    }
}
