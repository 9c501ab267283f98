/** Each promise of the document by hand: ordinary inputs, the edges that it names, wrong inputs. */
public final class PromisesTest extends Checks {
    private static final int[] WRONG = {Integer.MIN_VALUE, -1, Integer.MAX_VALUE};

    public static void main(String[] args) {
        newObject();
        speed();
        level();
        gone();
        see();
        seeNearest();
        drop();
        thing();
        place();
        reach();
        beat();
        lanes();
        arm();
        can();
        takes();
        plan();
        planPrefersEarlyThings();
        planMovesLaterThings();
        planUsesFreedBeats();
        planGivesALaterThingsBeat();
        tray();
        set();
        images();
        count();
        refusalsChangeNothing();
        end();
    }

    private static void newObject() {
        BeltArms x = new BeltArms();
        due("1 gone(1)", x.gone(1), 2);
        due("1 gone(300)", x.gone(300), 600);
        due("1 count(0)", x.count(0), 0);
        due("1 count(1)", x.count(1), 0);
        due("1 count(2)", x.count(2), 3);
        due("1 count(3)", x.count(3), 2);
        due("1 count(4)", x.count(4), 0);
        due("1 count(5)", x.count(5), 0);
        due("1 restore(0)", x.restore(0), STATE);
        due("1 restore(1)", x.restore(1), STATE);
        for (int arm = 0; arm < 4; arm++) {
            due("1 arm(" + arm + ", 0)", x.arm(arm, 0), 100 + 100 * arm);
            due("1 arm(" + arm + ", 1)", x.arm(arm, 1), 160 + 100 * arm);
            due("1 arm(" + arm + ", 2)", x.arm(arm, 2), 5);
            due("1 arm(" + arm + ", 3)", x.arm(arm, 3), 0);
            due("1 arm(" + arm + ", 4)", x.arm(arm, 4), 15);
            due("1 arm(" + arm + ", 5)", x.arm(arm, 5), 0);
            due("1 arm(" + arm + ", 6)", x.arm(arm, 6), 0);
        }
    }

    private static void speed() {
        BeltArms x = new BeltArms();
        due("2 speed(0, 9)", x.speed(0, 9), 2);
        due("2 speed(0, 0)", x.speed(0, 0), 9);
        due("2 count(1): the first SPEED is no CHANGE", x.count(1), 0);
        due("2 speed(300, 9)", x.speed(300, 9), 0);
        due("2 gone(300): the last TICK's SPEED is not in it", x.gone(300), 0);
        due("2 speed(100, 3)", x.speed(100, 3), 0);
        due("2 speed(50, 1)", x.speed(50, 1), 0);
        due("2 speed(150, 5): what it was, by the CHANGE before", x.speed(150, 5), 3);
        due("2 gone(200)", x.gone(200), 50 + 150 + 250);
        due("2 speed(100, 4): a CHANGE that is there", x.speed(100, 4), 3);
        due("2 count(1)", x.count(1), 4);
        due("2 speed(1, 0)", x.speed(1, 0), 0);
        due("2 speed(2, 0)", x.speed(2, 0), 0);
        due("2 speed(3, 0)", x.speed(3, 0), 0);
        due("2 speed(299, 0)", x.speed(299, 0), 5);
        due("2 count(1)", x.count(1), 8);
        due("2 speed(60, 2): a ninth", x.speed(60, 2), FULL);
        due("2 speed(60, 10): OUTSIDE is told first", x.speed(60, 10), OUTSIDE);
        due("2 speed(299, 6): one of the eight", x.speed(299, 6), 0);
        due("2 speed(1, 8): the first of the eight", x.speed(1, 8), 0);
        due("2 gone(2)", x.gone(2), 8);
        due("2 speed(1, 0): the first of the eight", x.speed(1, 0), 8);
        due("2 count(1)", x.count(1), 8);
        due("2 speed(0, 7): the first one", x.speed(0, 7), 0);
        due("2 gone(51)", x.gone(51), 7 + 1);
        due("2 gone(300)", x.gone(300), 7 + 50 + 200 + 149 * 5 + 6);
        for (int bad : WRONG) {
            due("2 speed(" + bad + ", 2)", x.speed(bad, 2), OUTSIDE);
            due("2 speed(2, " + bad + ")", x.speed(2, bad), OUTSIDE);
        }
        due("2 speed(301, 2)", x.speed(301, 2), OUTSIDE);
        due("2 speed(0, 10)", x.speed(0, 10), OUTSIDE);
    }

    private static void level() {
        BeltArms x = new BeltArms();
        x.speed(1, 5);
        x.speed(300, 1);
        x.speed(10, 2);
        due("3 level(2)", x.level(2), NO);
        due("3 level(10)", x.level(10), 2);
        due("3 gone(20): the CHANGE before goes on", x.gone(20), 2 + 19 * 5);
        due("3 level(10): it is gone", x.level(10), NO);
        due("3 level(1)", x.level(1), 1);
        due("3 gone(20)", x.gone(20), 40);
        due("3 level(300)", x.level(300), 0);
        due("3 level(0)", x.level(0), OUTSIDE);
        due("3 level(301)", x.level(301), OUTSIDE);
        for (int bad : WRONG) {
            due("3 level(" + bad + ")", x.level(bad), OUTSIDE);
        }
        for (int tick = 1; tick <= 8; tick++) {
            x.speed(tick, 9);
        }
        due("3 speed(9, 1)", x.speed(9, 1), FULL);
        due("3 level(4)", x.level(4), 7);
        due("3 speed(9, 1): there is room again", x.speed(9, 1), 9);
        due("3 count(1)", x.count(1), 8);
        BeltArms y = new BeltArms();
        y.see(0, 0, 0, 0);
        y.speed(1, 0);
        due("3 the belt stands", y.plan(0), 0);
        y.level(1);
        due("3 the belt goes again", y.plan(0), 1);
    }

    private static void gone() {
        BeltArms x = new BeltArms();
        due("4 gone(0)", x.gone(0), 0);
        x.speed(0, 9);
        due("4 gone(0)", x.gone(0), 0);
        due("4 gone(1)", x.gone(1), 9);
        due("4 gone(300)", x.gone(300), 2700);
        x.speed(299, 1);
        due("4 gone(299)", x.gone(299), 2691);
        due("4 gone(300)", x.gone(300), 2692);
        due("4 gone(301)", x.gone(301), OUTSIDE);
        for (int bad : WRONG) {
            due("4 gone(" + bad + ")", x.gone(bad), OUTSIDE);
        }
    }

    private static void see() {
        BeltArms x = new BeltArms();
        due("5 see(300, 3, 60, 2)", x.see(300, 3, 60, 2), 0);
        due("5 another KIND", x.see(299, 3, 58, 1), 1);
        due("5 another LANE", x.see(299, 2, 58, 2), 2);
        due("5 an earlier TICK", x.see(299, 3, 58, 2), 0);
        due("5 was SEEN then", x.see(299, 3, 58, 2), 3);
        due("5 NEAR exactly, before", x.see(298, 3, 53, 2), 0);
        due("5 one more than NEAR", x.see(297, 3, 50, 2), 4);
        due("5 NEAR exactly, behind", x.see(296, 3, 55, 2), 0);
        due("5 SEEN at", x.thing(0, 4), 4);
        due("5 what came first stays", x.thing(0, 0), 300);
        due("5 what came first stays", x.thing(0, 2), 60);
        for (int bad : new int[] {Integer.MIN_VALUE, -1, 301, Integer.MAX_VALUE}) {
            due("5 see(" + bad + ", 0, 0, 0)", x.see(bad, 0, 0, 0), OUTSIDE);
            due("5 see(0, " + bad + ", 0, 0)", x.see(0, bad, 0, 0), OUTSIDE);
            due("5 see(0, 0, " + bad + ", 0)", x.see(0, 0, bad, 0), OUTSIDE);
            due("5 see(0, 0, 0, " + bad + ")", x.see(0, 0, 0, bad), OUTSIDE);
        }
        due("5 see(0, 4, 0, 0)", x.see(0, 4, 0, 0), OUTSIDE);
        due("5 see(0, 0, 61, 0)", x.see(0, 0, 61, 0), OUTSIDE);
        due("5 see(0, 0, 0, 3)", x.see(0, 0, 0, 3), OUTSIDE);
        for (int thing = 5; thing < 20; thing++) {
            due("5 see(0, 0, 60, 0)", x.see(0, 0, 60, 0), thing);
        }
        due("5 a twenty-first", x.see(0, 0, 60, 0), FULL);
        due("5 one that is there", x.see(1, 0, 60, 0), 5);
        due("5 OUTSIDE is told first", x.see(0, 0, 61, 0), OUTSIDE);
        due("5 count(0)", x.count(0), 20);
    }

    private static void seeNearest() {
        BeltArms x = new BeltArms();
        x.see(0, 0, 10, 0);
        x.see(0, 0, 14, 0);
        x.see(0, 0, 12, 0);
        x.see(0, 0, 12, 0);
        due("5 nearest", x.see(1, 0, 15, 0), 1);
        due("5 of as near ones the least", x.see(1, 0, 14, 0), 2);
        due("5 the next least", x.see(1, 0, 14, 0), 3);
        due("5 the last that is NEAR", x.see(1, 0, 14, 0), 0);
        due("5 as near on either side", x.see(2, 0, 16, 0), 2);
        due("5 16 and 18 are as near to 17: the least", x.see(3, 0, 17, 0), 0);
        due("5 18 itself", x.see(3, 0, 18, 0), 2);
        x.set(0, 20);
        due("5 PLACE 14 + 8 and 10 + 8 to 20", x.see(4, 0, 20, 0), 2);
        due("5 SEEN then, so the next", x.see(4, 0, 20, 0), 3);
        due("5 as near: 18 and 22", x.see(4, 0, 20, 0), 0);
        due("5 22 is left", x.see(4, 0, 20, 0), 1);
        x.set(0, 0);
        x.speed(0, 0);
        due("5 NEAR 0", x.see(5, 0, 14, 0), 1);
        due("5 NEAR 0, one off", x.see(6, 0, 13, 0), 4);
        BeltArms y = new BeltArms();
        y.set(0, 5);
        y.see(50, 0, 10, 0);
        due("5 a PLACE below 0", y.see(40, 0, 0, 0), 1);
        due("5 a PLACE below 0, NEAR", y.see(43, 0, 1, 0), 0);
        BeltArms z = new BeltArms();
        z.speed(0, 0);
        for (int tick = 0; tick <= 300; tick++) {
            due("5 SEEN at each TICK", z.see(tick, 0, 0, 0), 0);
        }
        due("5 all TICKS", z.thing(0, 4), 301);
    }

    private static void drop() {
        BeltArms x = new BeltArms();
        due("6 drop(0)", x.drop(0), UNKNOWN);
        x.see(0, 0, 1, 0);
        x.see(0, 1, 2, 1);
        x.see(7, 2, 3, 2);
        x.see(8, 2, 5, 2);
        due("6 drop(3)", x.drop(3), UNKNOWN);
        due("6 drop(1)", x.drop(1), 2);
        due("6 the one behind is one less", x.thing(1, 0), 7);
        due("6 its LANE", x.thing(1, 1), 2);
        due("6 its PLACE", x.thing(1, 2), 3);
        due("6 its KIND", x.thing(1, 3), 2);
        due("6 its TICKS", x.thing(1, 4), 2);
        due("6 the one before", x.thing(0, 2), 1);
        due("6 a new one", x.see(20, 3, 4, 0), 2);
        due("6 a new one was SEEN once", x.thing(2, 4), 1);
        for (int bad : WRONG) {
            due("6 drop(" + bad + ")", x.drop(bad), UNKNOWN);
        }
        due("6 drop(2)", x.drop(2), 2);
        due("6 drop(0)", x.drop(0), 1);
        due("6 drop(0)", x.drop(0), 0);
        for (int i = 0; i < 20; i++) {
            x.see(i, 0, 0, i % 3);
        }
        due("6 20 THINGS", x.count(0), 20);
        due("6 the last of 20", x.drop(19), 19);
        due("6 the first of 19", x.drop(0), 18);
        due("6 what was the second", x.thing(0, 0), 1);
        due("6 what was the last but one", x.thing(17, 0), 18);
    }

    private static void thing() {
        BeltArms x = new BeltArms();
        x.see(3, 1, 20, 2);
        // PLACE is 14 + 2t: 100 at 43, 160 at 73, so the beats 45 to 70; six for each other ARM too
        int[] want = {3, 1, 20, 2, 1, 45, 0, 0, 45, 220, 6 + 6 + 6 + 6};
        for (int what = 0; what <= 10; what++) {
            due("7 thing(0, " + what + ")", x.thing(0, what), want[what]);
        }
        due("7 thing(0, 11)", x.thing(0, 11), OUTSIDE);
        for (int bad : WRONG) {
            due("7 thing(0, " + bad + ")", x.thing(0, bad), OUTSIDE);
            due("7 thing(" + bad + ", 0)", x.thing(bad, 0), UNKNOWN);
        }
        due("7 UNKNOWN is told first", x.thing(1, 11), UNKNOWN);
        for (int arm = 0; arm < 4; arm++) {
            x.lanes(arm, 13);
        }
        for (int what = 5; what <= 9; what++) {
            due("7 none: thing(0, " + what + ")", x.thing(0, what), NONE);
        }
        due("7 none: thing(0, 10)", x.thing(0, 10), 0);
        x.lanes(2, 2);
        due("7 by ARM 2 alone", x.thing(0, 8), 145);
        due("7 by ARM 2 alone", x.thing(0, 9), 170);
        due("7 by ARM 2 alone", x.thing(0, 6), 2);
        BeltArms y = new BeltArms();
        y.speed(0, 0);
        y.reach(1, 7, 7);
        y.beat(1, 1, 0);
        y.see(0, 0, 7, 0);
        y.see(299, 0, 7, 1);
        y.see(300, 0, 7, 2);
        due("7 a belt that stands: the first TICK is greater than its own", y.thing(0, 8), 1);
        due("7 a belt that stands: the last TICK", y.thing(0, 9), 300);
        due("7 a belt that stands: all", y.thing(0, 10), 300);
        due("7 the last TICK", y.thing(1, 5), 300);
        due("7 none is greater than 300", y.thing(2, 8), NONE);
        due("7 none is greater than 300", y.thing(2, 10), 0);
        due("7 by one ARM", y.thing(1, 6), 1);
        y.see(0, 0, 7, 0);
        y.see(0, 1, 7, 0);
        due("7 BEAT 1: one TICK after the other", y.thing(0, 5), 1);
        due("7 BEAT 1: one TICK after the other", y.thing(3, 5), 2);
        due("7 BEAT 1: one TICK after the other", y.thing(4, 5), 3);
    }

    private static void place() {
        BeltArms x = new BeltArms();
        x.see(10, 0, 5, 0);
        x.speed(5, 9);
        due("8 place(0, 10)", x.place(0, 10), 10005);
        due("8 place(0, 11)", x.place(0, 11), 10014);
        due("8 place(0, 9)", x.place(0, 9), 9996);
        due("8 place(0, 0)", x.place(0, 0), 10005 - 55);
        due("8 place(0, 300)", x.place(0, 300), 10005 + 290 * 9);
        due("8 place(0, 301)", x.place(0, 301), OUTSIDE);
        for (int bad : WRONG) {
            due("8 place(0, " + bad + ")", x.place(0, bad), OUTSIDE);
            due("8 place(" + bad + ", 0)", x.place(bad, 0), UNKNOWN);
        }
        due("8 UNKNOWN is told first", x.place(1, 301), UNKNOWN);
        x.see(300, 1, 0, 0);
        x.speed(0, 9);
        due("8 the least", x.place(1, 0), 10000 - 2700);
    }

    private static void reach() {
        BeltArms x = new BeltArms();
        due("9 reach(0, 161, 199)", x.reach(0, 161, 199), 1);
        due("9 FROM", x.arm(0, 0), 161);
        due("9 TILL", x.arm(0, 1), 199);
        due("9 on TILL's side", x.reach(0, 161, 200), NO);
        due("9 on FROM's side", x.reach(0, 260, 299), NO);
        due("9 within another", x.reach(0, 210, 211), NO);
        due("9 around another", x.reach(0, 190, 299), NO);
        due("9 one PLACE", x.reach(0, 460, 460), NO);
        due("9 LANES do not matter", x.lanes(1, 0), 15);
        due("9 LANES do not matter", x.reach(0, 230, 230), NO);
        due("9 its own PLACES", x.reach(0, 170, 180), 1);
        due("9 the whole front", x.reach(0, 0, 199), 1);
        due("9 to the end", x.reach(3, 361, 999), 1);
        due("9 one PLACE", x.reach(2, 360, 360), 1);
        due("9 past other ARMS", x.reach(1, 300, 359), 1);
        due("9 ARM 1 is moved", x.reach(0, 200, 299), 1);
        due("9 reach(0, 5, 4)", x.reach(0, 5, 4), OUTSIDE);
        due("9 OUTSIDE is told before NO", x.reach(0, 300, 1000), OUTSIDE);
        due("9 reach(0, 1000, 1000)", x.reach(0, 1000, 1000), OUTSIDE);
        for (int bad : WRONG) {
            due("9 reach(" + bad + ", 0, 0)", x.reach(bad, 0, 0), UNKNOWN);
            due("9 reach(0, " + bad + ", 5)", x.reach(0, bad, 5), OUTSIDE);
            due("9 reach(0, 5, " + bad + ")", x.reach(0, 5, bad), OUTSIDE);
        }
        due("9 UNKNOWN is told first", x.reach(4, 5, 4), UNKNOWN);
        due("9 what is refused changes nothing", x.arm(0, 0), 200);
        due("9 what is refused changes nothing", x.arm(0, 1), 299);
    }

    private static void beat() {
        BeltArms x = new BeltArms();
        x.see(0, 0, 0, 0);
        due("10 beat(0, 20, 19)", x.beat(0, 20, 19), 1);
        due("10 BEAT", x.arm(0, 2), 20);
        due("10 OFF", x.arm(0, 3), 19);
        due("10 the first beat within reach", x.thing(0, 8), 59);
        due("10 beat(0, 1, 0)", x.beat(0, 1, 0), 1);
        due("10 the first beat within reach", x.thing(0, 8), 50);
        due("10 beat(0, 0, 0)", x.beat(0, 0, 0), OUTSIDE);
        due("10 beat(0, 21, 0)", x.beat(0, 21, 0), OUTSIDE);
        due("10 beat(0, 1, 1)", x.beat(0, 1, 1), OUTSIDE);
        due("10 beat(0, 20, 20)", x.beat(0, 20, 20), OUTSIDE);
        due("10 beat(4, 0, 0): UNKNOWN is told first", x.beat(4, 0, 0), UNKNOWN);
        for (int bad : WRONG) {
            due("10 beat(" + bad + ", 1, 0)", x.beat(bad, 1, 0), UNKNOWN);
            due("10 beat(0, " + bad + ", 0)", x.beat(0, bad, 0), OUTSIDE);
            due("10 beat(0, 5, " + bad + ")", x.beat(0, 5, bad), OUTSIDE);
        }
        due("10 what is refused changes nothing", x.arm(0, 2), 1);
        due("10 other ARMS stay", x.arm(1, 2), 5);
    }

    private static void lanes() {
        BeltArms x = new BeltArms();
        due("11 lanes(3, 0)", x.lanes(3, 0), 15);
        due("11 lanes(3, 9)", x.lanes(3, 9), 0);
        due("11 lanes(3, 15)", x.lanes(3, 15), 9);
        due("11 lanes(3, 16)", x.lanes(3, 16), OUTSIDE);
        due("11 lanes(4, 16)", x.lanes(4, 16), UNKNOWN);
        for (int bad : WRONG) {
            due("11 lanes(" + bad + ", 1)", x.lanes(bad, 1), UNKNOWN);
            due("11 lanes(1, " + bad + ")", x.lanes(1, bad), OUTSIDE);
        }
        due("11 it stays", x.arm(3, 4), 15);
        x.lanes(0, 8);
        x.see(0, 3, 0, 0);
        x.see(0, 2, 0, 0);
        due("11 LANE 3", x.can(0, 0, 50), 1);
        due("11 LANE 2", x.can(0, 1, 50), 0);
    }

    private static void arm() {
        BeltArms x = new BeltArms();
        for (int i = 0; i < 20; i++) {
            x.see(0, 0, 0, 0);
        }
        x.beat(0, 20, 0);
        x.beat(1, 20, 19);
        // PLACE is 2t, so the beats are 60, 80; 119; 150 to 180; 200 to 230
        due("12 arm(0, 5)", x.arm(0, 5), 2);
        due("12 arm(1, 5)", x.arm(1, 5), 1);
        due("12 arm(2, 5)", x.arm(2, 5), 7);
        due("12 arm(3, 5)", x.arm(3, 5), 7);
        due("12 arm(0, 6)", x.arm(0, 6), 2);
        due("12 arm(1, 6)", x.arm(1, 6), 1);
        due("12 arm(2, 6)", x.arm(2, 6), 7);
        due("12 arm(3, 6)", x.arm(3, 6), 7);
        due("12 THE PLAN is as before", x.plan(0), 17);
        x.drop(0);
        x.drop(0);
        x.drop(0);
        x.drop(0);
        x.drop(0);
        due("12 with 15: arm(0, 6)", x.arm(0, 6), 0);
        due("12 with 15: arm(2, 6)", x.arm(2, 6), 5);
        due("12 with 15: arm(3, 5)", x.arm(3, 5), 5);
        due("12 arm(0, 7)", x.arm(0, 7), OUTSIDE);
        due("12 arm(4, 7)", x.arm(4, 7), UNKNOWN);
        for (int bad : WRONG) {
            due("12 arm(0, " + bad + ")", x.arm(0, bad), OUTSIDE);
            due("12 arm(" + bad + ", 0)", x.arm(bad, 0), UNKNOWN);
        }
    }

    private static void can() {
        BeltArms x = new BeltArms();
        x.see(0, 0, 0, 0);
        due("13 before", x.can(0, 0, 45), 0);
        due("13 at FROM", x.can(0, 0, 50), 1);
        due("13 no beat", x.can(0, 0, 51), 0);
        due("13 at TILL", x.can(0, 0, 80), 1);
        due("13 behind", x.can(0, 0, 85), 0);
        due("13 another ARM", x.can(1, 0, 50), 0);
        x.beat(0, 5, 1);
        due("13 OFF", x.can(0, 0, 51), 1);
        due("13 OFF", x.can(0, 0, 50), 0);
        due("13 lane", x.lanes(0, 14), 15);
        due("13 lane", x.can(0, 0, 51), 0);
        due("13 can(4, 0, 0)", x.can(4, 0, 0), UNKNOWN);
        due("13 can(0, 1, 301)", x.can(0, 1, 301), UNKNOWN);
        due("13 can(0, 0, 301)", x.can(0, 0, 301), OUTSIDE);
        for (int bad : WRONG) {
            due("13 can(" + bad + ", 0, 0)", x.can(bad, 0, 0), UNKNOWN);
            due("13 can(0, " + bad + ", 0)", x.can(0, bad, 0), UNKNOWN);
            due("13 can(0, 0, " + bad + ")", x.can(0, 0, bad), OUTSIDE);
        }
        BeltArms y = new BeltArms();
        y.speed(0, 0);
        y.reach(3, 0, 60);
        y.beat(3, 4, 3);
        y.see(7, 0, 60, 0);
        due("13 its own TICK", y.can(3, 0, 7), 0);
        due("13 an earlier TICK", y.can(3, 0, 3), 0);
        due("13 the next beat", y.can(3, 0, 11), 1);
        due("13 TICK 0", y.can(3, 0, 0), 0);
    }

    private static void takes() {
        BeltArms x = new BeltArms();
        x.see(0, 0, 0, 0);
        x.see(0, 0, 0, 0);
        due("14 takes(0, 50)", x.takes(0, 50), 0);
        due("14 takes(0, 55)", x.takes(0, 55), 1);
        due("14 takes(0, 60)", x.takes(0, 60), NONE);
        due("14 takes(1, 50)", x.takes(1, 50), NONE);
        due("14 takes(0, 0)", x.takes(0, 0), NONE);
        due("14 takes(3, 300)", x.takes(3, 300), NONE);
        due("14 takes(0, 301)", x.takes(0, 301), OUTSIDE);
        due("14 takes(4, 301)", x.takes(4, 301), UNKNOWN);
        for (int bad : WRONG) {
            due("14 takes(" + bad + ", 0)", x.takes(bad, 0), UNKNOWN);
            due("14 takes(0, " + bad + ")", x.takes(0, bad), OUTSIDE);
        }
        x.drop(0);
        due("14 takes(0, 50) after drop(0)", x.takes(0, 50), 0);
        due("14 takes(0, 55) after drop(0)", x.takes(0, 55), NONE);
        BeltArms y = new BeltArms();
        y.speed(0, 0);
        y.reach(3, 60, 60);
        y.beat(3, 20, 0);
        y.see(299, 0, 60, 0);
        due("14 takes(3, 300)", y.takes(3, 300), 0);
        due("14 plan(2)", y.plan(2), 300);
    }

    private static void plan() {
        BeltArms x = new BeltArms();
        due("15 none: plan(0)", x.plan(0), 0);
        due("15 none: plan(1)", x.plan(1), 0);
        due("15 none: plan(2)", x.plan(2), NONE);
        due("15 none: plan(3)", x.plan(3), 0);
        due("15 none: plan(4)", x.plan(4), 0);
        due("15 plan(5)", x.plan(5), OUTSIDE);
        for (int bad : WRONG) {
            due("15 plan(" + bad + ")", x.plan(bad), OUTSIDE);
        }
        for (int i = 0; i < 20; i++) {
            x.see(0, 0, 0, 0);
        }
        due("15 20: plan(0)", x.plan(0), 20);
        due("15 20: plan(2): 7 beats for each ARM", x.plan(2), 175);
        due("15 20: plan(3)", x.plan(3), 0);
        due("15 20: plan(4)", x.plan(4), (1 << 20) - 1);
        x.lanes(3, 0);
        x.beat(0, 20, 0);
        due("15 16 slots: plan(0)", x.plan(0), 16);
        due("15 16 slots: plan(1)", x.plan(1), 4);
        due("15 16 slots: plan(3): the last are MISSED", x.plan(3), 15 << 16);
        due("15 16 slots: plan(4): any could be", x.plan(4), 0);
        x.drop(19);
        x.see(200, 0, 0, 0);
        x.lanes(3, 15);
        x.lanes(2, 0);
        due("15 a late one that only ARM 0 reaches at 260: plan(4)", x.plan(4), 1 << 19);
        due("15 it is taken", x.thing(19, 5), 260);
    }

    /** One slot that two could have: the one told first gets it, though the other is as good. */
    private static void planPrefersEarlyThings() {
        BeltArms x = new BeltArms();
        x.lanes(1, 0);
        x.lanes(2, 0);
        x.lanes(3, 0);
        x.beat(0, 20, 0);
        x.see(10, 0, 0, 0);
        x.see(0, 0, 0, 0);
        x.see(0, 0, 0, 0);
        // THING 0 has 60, 80 (PLACE 100 at 60); THINGS 1 and 2 have 60, 80
        due("15 early: plan(0)", x.plan(0), 2);
        due("15 early: thing(0, 5)", x.thing(0, 5), 60);
        due("15 early: thing(1, 5)", x.thing(1, 5), 80);
        due("15 early: plan(3)", x.plan(3), 4);
        due("15 early: plan(4)", x.plan(4), 0);
    }

    /** THING 0's first TICK is THING 1's only one, so THING 0 waits: most are taken first of all. */
    private static void planMovesLaterThings() {
        BeltArms x = new BeltArms();
        x.lanes(1, 0);
        x.lanes(2, 0);
        x.lanes(3, 0);
        x.beat(0, 20, 0);
        x.reach(0, 100, 145);
        x.see(0, 0, 20, 0);
        x.see(0, 0, 30, 0);
        // PLACE 20 + 2t: 40, 60 (140); 30 + 2t: 40 (110) alone
        due("15 moves: thing(0, 10)", x.thing(0, 10), 2);
        due("15 moves: thing(1, 10)", x.thing(1, 10), 1);
        due("15 moves: thing(0, 5)", x.thing(0, 5), 60);
        due("15 moves: thing(1, 5)", x.thing(1, 5), 40);
        due("15 moves: plan(4)", x.plan(4), 3);
        due("15 moves: a third one", x.see(0, 0, 24, 0), 2);
        // 24 + 2t: 40 (104), 60 (144)
        due("15 moves: plan(0)", x.plan(0), 2);
        due("15 moves: THING 0 at 40, as THING 2 can have 60", x.thing(0, 5), 40);
        due("15 moves: THING 1 is MISSED then", x.thing(1, 5), NONE);
        due("15 moves: thing(2, 5)", x.thing(2, 5), 60);
        due("15 moves: plan(4)", x.plan(4), 0);
    }

    /** THINGS 0, 3 and 4 fill ARM 0's beats 51, 63, 75, so the others wait for ARMS 2 and 3. */
    private static void planUsesFreedBeats() {
        BeltArms x = new BeltArms();
        x.set(0, 0);
        x.speed(100, 4);
        x.lanes(1, 0);
        x.lanes(2, 2);
        x.lanes(3, 10);
        x.beat(0, 12, 3);
        x.beat(2, 12, 8);
        x.see(0, 0, 10, 1);
        x.see(5, 1, 2, 1);
        x.see(5, 1, 3, 0);
        x.see(6, 0, 2, 0);
        x.see(0, 0, 8, 1);
        x.see(2, 1, 10, 1);
        int[] ticks = {51, 128, 140, 63, 75, 150};
        int[] arms = {0, 2, 2, 0, 0, 3};
        for (int i = 0; i < 6; i++) {
            due("15 freed: thing(" + i + ", 5)", x.thing(i, 5), ticks[i]);
            due("15 freed: thing(" + i + ", 6)", x.thing(i, 6), arms[i]);
        }
        due("15 freed: plan(4)", x.plan(4), 63);
    }

    /**
     * That THING 1 gets its first beat makes THING 2 leave it and THING 4 be taken instead; THING 2
     * then gets THING 3's only beat, as it comes before it.
     */
    private static void planGivesALaterThingsBeat() {
        BeltArms x = new BeltArms();
        int[][] reached = {{115, 125, 7}, {200, 239, 4}, {315, 355, 2}, {400, 439, 1}};
        for (int arm = 0; arm < 4; arm++) {
            x.reach(arm, reached[arm][0], reached[arm][1]);
            x.lanes(arm, reached[arm][2]);
            x.beat(arm, 20, 0);
        }
        x.see(0, 0, 0, 0);
        x.see(0, 1, 0, 0);
        x.see(0, 2, 0, 0);
        x.see(0, 2, 30, 0);
        x.see(0, 1, 30, 0);
        // the beats are 60, 200; 60, 160; 60, 100; 100; 160
        int[] beats = {2, 2, 2, 1, 1};
        int[] ticks = {200, 60, 100, NONE, 160};
        int[] arms = {3, 0, 1, NONE, 2};
        for (int i = 0; i < 5; i++) {
            due("15 later: thing(" + i + ", 10)", x.thing(i, 10), beats[i]);
            due("15 later: thing(" + i + ", 5)", x.thing(i, 5), ticks[i]);
            due("15 later: thing(" + i + ", 6)", x.thing(i, 6), arms[i]);
        }
        due("15 later: plan(0)", x.plan(0), 4);
        due("15 later: plan(3)", x.plan(3), 8);
        due("15 later: plan(4): ARM 3 can take THING 0 alone", x.plan(4), 1);
    }

    private static void tray() {
        BeltArms x = new BeltArms();
        x.see(20, 0, 0, 1);
        x.see(10, 0, 0, 1);
        x.see(0, 0, 0, 1);
        x.see(0, 0, 0, 2);
        // taken at 70, 60, 50, 55: laid in the order 2, 3, 1, 0
        due("16 thing(2, 7)", x.thing(2, 7), 0);
        due("16 thing(1, 7)", x.thing(1, 7), 1);
        due("16 thing(0, 7)", x.thing(0, 7), 0);
        due("16 thing(3, 7): a TRAY of its own", x.thing(3, 7), 0);
        due("16 tray(1, 0)", x.tray(1, 0), 2);
        due("16 tray(1, 1)", x.tray(1, 1), 1);
        due("16 tray(2, 0)", x.tray(2, 0), 1);
        due("16 tray(2, 1)", x.tray(2, 1), 0);
        due("16 tray(0, 0)", x.tray(0, 0), 0);
        due("16 tray(0, 2)", x.tray(0, 2), OUTSIDE);
        due("16 tray(3, 0)", x.tray(3, 0), OUTSIDE);
        for (int bad : WRONG) {
            due("16 tray(" + bad + ", 0)", x.tray(bad, 0), OUTSIDE);
            due("16 tray(0, " + bad + ")", x.tray(0, bad), OUTSIDE);
        }
        x.set(1, 6);
        due("16 SHARE 6: thing(0, 7)", x.thing(0, 7), 2);
        due("16 SHARE 6: tray(1, 2)", x.tray(1, 2), 1);
        due("16 SHARE 6: tray(1, 5)", x.tray(1, 5), 0);
        due("16 SHARE 6: tray(1, 6)", x.tray(1, 6), OUTSIDE);
        x.set(1, 1);
        due("16 SHARE 1: tray(1, 0)", x.tray(1, 0), 3);
        due("16 SHARE 1: thing(0, 7)", x.thing(0, 7), 0);
        trayByArms();
    }

    /** Two ARMS take at one TICK: the lesser ARM's THING is laid first, though it came last. */
    private static void trayByArms() {
        BeltArms x = new BeltArms();
        x.speed(0, 0);
        x.reach(0, 10, 10);
        x.reach(1, 20, 20);
        x.see(0, 0, 20, 0);
        x.see(0, 0, 10, 0);
        due("16 both at TICK 5", x.thing(0, 5), 5);
        due("16 both at TICK 5", x.thing(1, 5), 5);
        due("16 ARM 1's is laid second", x.thing(0, 7), 1);
        due("16 ARM 0's is laid first", x.thing(1, 7), 0);
    }

    private static void set() {
        BeltArms x = new BeltArms();
        due("17 set(0, 20)", x.set(0, 20), 3);
        due("17 set(0, 0)", x.set(0, 0), 20);
        due("17 set(0, 21)", x.set(0, 21), OUTSIDE);
        due("17 set(1, 6)", x.set(1, 6), 2);
        due("17 set(1, 1)", x.set(1, 1), 6);
        due("17 set(1, 0)", x.set(1, 0), OUTSIDE);
        due("17 set(1, 7)", x.set(1, 7), OUTSIDE);
        due("17 set(2, 1)", x.set(2, 1), OUTSIDE);
        for (int bad : WRONG) {
            due("17 set(" + bad + ", 1)", x.set(bad, 1), OUTSIDE);
            due("17 set(0, " + bad + ")", x.set(0, bad), OUTSIDE);
            due("17 set(1, " + bad + ")", x.set(1, bad), OUTSIDE);
        }
        due("17 NEAR", x.count(2), 0);
        due("17 SHARE", x.count(3), 1);
        x.set(0, 3);
        x.see(0, 0, 0, 0);
        x.see(1, 0, 5, 0);
        x.set(0, 0);
        due("17 what was SEEN stays", x.thing(0, 4), 2);
        x.set(0, 20);
        due("17 what was SEEN stays", x.count(0), 1);
    }

    private static void images() {
        BeltArms x = new BeltArms();
        due("18 image(2)", x.image(2), OUTSIDE);
        due("19 restore(2)", x.restore(2), OUTSIDE);
        for (int bad : WRONG) {
            due("18 image(" + bad + ")", x.image(bad), OUTSIDE);
            due("19 restore(" + bad + ")", x.restore(bad), OUTSIDE);
        }
        due("18 image(1)", x.image(1), 1);
        due("18 count(5)", x.count(5), 2);
        due("19 restore(0): nothing is kept", x.restore(0), STATE);
        fill(x);
        due("18 image(0)", x.image(0), 1);
        due("18 count(5)", x.count(5), 3);
        checkFilled("18 as it was", x);
        due("19 restore(1)", x.restore(1), 1);
        checkNew("19 as a new one", x);
        due("19 count(5): IMAGES stay", x.count(5), 3);
        due("19 restore(0)", x.restore(0), 1);
        checkFilled("19 as it was kept", x);
        x.drop(0);
        x.speed(40, 0);
        x.see(9, 1, 9, 1);
        due("19 restore(0) again", x.restore(0), 1);
        checkFilled("19 the IMAGE stays", x);
        x.drop(0);
        due("18 in place of what was kept", x.image(0), 1);
        x.restore(1);
        x.restore(0);
        due("18 in place of what was kept", x.count(0), 1);
    }

    private static void fill(BeltArms x) {
        x.speed(0, 3);
        x.speed(9, 4);
        x.see(1, 0, 10, 1);
        x.see(2, 0, 13, 1);
        x.see(1, 1, 10, 2);
        x.reach(0, 90, 95);
        x.beat(0, 7, 2);
        x.lanes(0, 5);
        x.set(0, 9);
        x.set(1, 5);
    }

    private static void checkFilled(String why, BeltArms x) {
        due(why + ": gone(20)", x.gone(20), 27 + 44);
        due(why + ": CHANGES", x.count(1), 1);
        due(why + ": THINGS", x.count(0), 2);
        due(why + ": SEEN", x.thing(0, 4), 2);
        due(why + ": KIND", x.thing(1, 3), 2);
        due(why + ": FROM", x.arm(0, 0), 90);
        due(why + ": TILL", x.arm(0, 1), 95);
        due(why + ": BEAT", x.arm(0, 2), 7);
        due(why + ": OFF", x.arm(0, 3), 2);
        due(why + ": LANES", x.arm(0, 4), 5);
        due(why + ": NEAR", x.count(2), 9);
        due(why + ": SHARE", x.count(3), 5);
        due(why + ": plan(0)", x.plan(0), 2);
        due(why + ": tray(2, 4)", x.tray(2, 4), 0);
        due(why + ": SEEN then", x.see(2, 0, 61, 1), OUTSIDE);
    }

    private static void checkNew(String why, BeltArms x) {
        due(why + ": gone(20)", x.gone(20), 40);
        due(why + ": CHANGES", x.count(1), 0);
        due(why + ": THINGS", x.count(0), 0);
        due(why + ": FROM", x.arm(0, 0), 100);
        due(why + ": TILL", x.arm(0, 1), 160);
        due(why + ": BEAT", x.arm(0, 2), 5);
        due(why + ": OFF", x.arm(0, 3), 0);
        due(why + ": LANES", x.arm(0, 4), 15);
        due(why + ": NEAR", x.count(2), 3);
        due(why + ": SHARE", x.count(3), 2);
        due(why + ": plan(0)", x.plan(0), 0);
        due(why + ": thing(0, 0)", x.thing(0, 0), UNKNOWN);
    }

    private static void count() {
        BeltArms x = new BeltArms();
        x.see(0, 0, 0, 0);
        x.see(0, 0, 20, 2);
        x.see(0, 0, 40, 2);
        x.see(1, 0, 2, 0);
        x.see(2, 0, 4, 0);
        x.speed(4, 2);
        x.image(1);
        due("20 count(0)", x.count(0), 3);
        due("20 count(1)", x.count(1), 1);
        due("20 count(2)", x.count(2), 3);
        due("20 count(3)", x.count(3), 2);
        due("20 count(4)", x.count(4), 1);
        due("20 count(5)", x.count(5), 2);
        due("20 count(10)", x.count(10), 1);
        due("20 count(11)", x.count(11), 0);
        due("20 count(12)", x.count(12), 2);
        for (int bad : new int[] {Integer.MIN_VALUE, -1, 6, 7, 8, 9, 13, Integer.MAX_VALUE}) {
            due("20 count(" + bad + ")", x.count(bad), OUTSIDE);
        }
        x.drop(0);
        due("20 count(4) after drop(0)", x.count(4), 0);
        due("20 count(10) after drop(0)", x.count(10), 0);
        due("20 count(12) after drop(0)", x.count(12), 2);
    }

    private static void refusalsChangeNothing() {
        BeltArms x = new BeltArms();
        fill(x);
        x.speed(301, 0);
        x.speed(0, 10);
        x.level(8);
        x.see(0, 0, 61, 0);
        x.drop(2);
        x.reach(0, 0, 300);
        x.beat(0, 3, 3);
        x.lanes(0, 16);
        x.set(0, 21);
        x.set(1, 7);
        x.restore(0);
        x.image(2);
        checkFilled("refused", x);
    }
}
