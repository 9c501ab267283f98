import java.util.ArrayList;
import java.util.List;

/**
 * Calls that are refused: that each call has the refusals that the document tells with it, in the
 * order told where two of them fit; that NONE is answered only where none fits; and that what is
 * refused changes nothing, by asking all that can be asked, afterwards.
 */
public final class RefusalsTest extends Checks {
    private interface Call {
        int on(BeltArms x);
    }

    private interface Scene {
        BeltArms make();
    }

    private interface Questions {
        void ask(BeltArms x, List<Integer> answers);
    }

    private record Refusal(String text, Call call, int due) {
    }

    public static void main(String[] args) {
        List<Refusal> always = new ArrayList<>();
        unknownArms(always);
        outsideOfTheBelt(always);
        outsideOfArms(always);
        outsideOfTheRest(always);
        scenes();
        inEach("new", RefusalsTest::newOne, always, noThing());
        inEach("used", RefusalsTest::usedOne, always, usedUp());
        inEach("full", RefusalsTest::fullOne, always, full());
        end();
    }

    // ---- the refusals

    private static Refusal of(String text, int due, Call call) {
        return new Refusal(text, call, due);
    }

    /** UNKNOWN comes before all else: the other numbers are wrong too in the second of each. */
    private static void unknownArms(List<Refusal> to) {
        for (int arm : new int[] {MIN, -1, 4, MAX}) {
            to.add(of("reach, ARM " + arm, UNKNOWN, x -> x.reach(arm, 900, 901)));
            to.add(of("reach, ARM and FROM, " + arm, UNKNOWN, x -> x.reach(arm, -1, 901)));
            to.add(of("reach, ARM and TILL, " + arm, UNKNOWN, x -> x.reach(arm, 900, 1000)));
            to.add(of("reach, ARM, FROM over TILL, " + arm, UNKNOWN, x -> x.reach(arm, 901, 900)));
            to.add(of("reach, ARM and NO, " + arm, UNKNOWN, x -> x.reach(arm, 0, 999)));
            to.add(of("beat, ARM " + arm, UNKNOWN, x -> x.beat(arm, 7, 2)));
            to.add(of("beat, ARM and BEAT, " + arm, UNKNOWN, x -> x.beat(arm, 0, 0)));
            to.add(of("beat, ARM and OFF, " + arm, UNKNOWN, x -> x.beat(arm, 7, 7)));
            to.add(of("lanes, ARM " + arm, UNKNOWN, x -> x.lanes(arm, 3)));
            to.add(of("lanes, ARM and set, " + arm, UNKNOWN, x -> x.lanes(arm, 16)));
            to.add(of("arm, ARM " + arm, UNKNOWN, x -> x.arm(arm, 0)));
            to.add(of("arm, ARM, a plan's number, " + arm, UNKNOWN, x -> x.arm(arm, 6)));
            to.add(of("arm, ARM and what, " + arm, UNKNOWN, x -> x.arm(arm, 7)));
            to.add(of("can, ARM and THING, " + arm, UNKNOWN, x -> x.can(arm, 20, 0)));
            to.add(of("can, ARM and TICK, " + arm, UNKNOWN, x -> x.can(arm, 0, 301)));
            to.add(of("takes, ARM " + arm, UNKNOWN, x -> x.takes(arm, 0)));
            to.add(of("takes, ARM and TICK, " + arm, UNKNOWN, x -> x.takes(arm, 301)));
        }
        for (int thing : new int[] {MIN, -1, 20, MAX}) {
            to.add(of("drop, THING " + thing, UNKNOWN, x -> x.drop(thing)));
            to.add(of("thing, THING " + thing, UNKNOWN, x -> x.thing(thing, 0)));
            to.add(of("thing, THING, not NONE, " + thing, UNKNOWN, x -> x.thing(thing, 5)));
            to.add(of("thing, THING, not NONE, " + thing, UNKNOWN, x -> x.thing(thing, 8)));
            to.add(of("thing, THING and what, " + thing, UNKNOWN, x -> x.thing(thing, 11)));
            to.add(of("place, THING " + thing, UNKNOWN, x -> x.place(thing, 0)));
            to.add(of("place, THING and TICK, " + thing, UNKNOWN, x -> x.place(thing, 301)));
            to.add(of("can, THING " + thing, UNKNOWN, x -> x.can(0, thing, 0)));
            to.add(of("can, THING and TICK, " + thing, UNKNOWN, x -> x.can(0, thing, -1)));
        }
    }

    private static void outsideOfTheBelt(List<Refusal> to) {
        for (int tick : new int[] {MIN, -1, 301, MAX}) {
            to.add(of("speed, TICK " + tick, OUTSIDE, x -> x.speed(tick, 5)));
            to.add(of("speed, TICK and n, " + tick, OUTSIDE, x -> x.speed(tick, 10)));
            to.add(of("level, TICK, not NO, " + tick, OUTSIDE, x -> x.level(tick)));
            to.add(of("gone, TICK " + tick, OUTSIDE, x -> x.gone(tick)));
            to.add(of("see, TICK, not FULL, " + tick, OUTSIDE, x -> x.see(tick, 0, 0, 0)));
            to.add(of("takes, TICK, not NONE, " + tick, OUTSIDE, x -> x.takes(0, tick)));
        }
        to.add(of("level, TICK 0, not NO", OUTSIDE, x -> x.level(0)));
        for (int n : new int[] {MIN, -1, 10, MAX}) {
            to.add(of("speed, the first one " + n, OUTSIDE, x -> x.speed(0, n)));
            to.add(of("speed, not FULL, " + n, OUTSIDE, x -> x.speed(77, n)));
        }
        for (int bad : new int[] {MIN, -1, MAX}) {
            to.add(of("see, LANE, not FULL, " + bad, OUTSIDE, x -> x.see(0, bad, 0, 0)));
            to.add(of("see, PLACE, not FULL, " + bad, OUTSIDE, x -> x.see(0, 0, bad, 0)));
            to.add(of("see, KIND, not FULL, " + bad, OUTSIDE, x -> x.see(0, 0, 0, bad)));
        }
        to.add(of("see, LANE 4, not FULL", OUTSIDE, x -> x.see(0, 4, 0, 0)));
        to.add(of("see, PLACE 61, not FULL", OUTSIDE, x -> x.see(0, 0, 61, 0)));
        to.add(of("see, KIND 3, not FULL", OUTSIDE, x -> x.see(0, 0, 0, 3)));
    }

    /** OUTSIDE comes before NO: PLACES that other ARMS reach are among those of each reach. */
    private static void outsideOfArms(List<Refusal> to) {
        to.add(of("reach, FROM -1, not NO", OUTSIDE, x -> x.reach(0, -1, 999)));
        to.add(of("reach, TILL 1000, not NO", OUTSIDE, x -> x.reach(0, 0, 1000)));
        to.add(of("reach, FROM 1000, TILL 1000", OUTSIDE, x -> x.reach(0, 1000, 1000)));
        to.add(of("reach, FROM over TILL, not NO", OUTSIDE, x -> x.reach(0, 999, 0)));
        to.add(of("reach, far off", OUTSIDE, x -> x.reach(0, MIN, MAX)));
        to.add(of("reach, far off the other way", OUTSIDE, x -> x.reach(0, MAX, MIN)));
        to.add(of("reach, all PLACES", NO, x -> x.reach(0, 0, 999)));
        to.add(of("reach, all PLACES, ARM 3", NO, x -> x.reach(3, 0, 999)));
        for (int arm = 0; arm <= 3; arm++) {
            int a = arm;
            for (int bad : new int[] {MIN, -1, 0, 21, MAX}) {
                to.add(of("beat, BEAT " + bad, OUTSIDE, x -> x.beat(a, bad, 0)));
                to.add(of("beat, BEAT and OFF " + bad, OUTSIDE, x -> x.beat(a, bad, bad)));
            }
            for (int bad : new int[] {MIN, -1, 20, MAX}) {
                to.add(of("beat, OFF " + bad, OUTSIDE, x -> x.beat(a, 20, bad)));
            }
            to.add(of("beat, OFF 1 of 1", OUTSIDE, x -> x.beat(a, 1, 1)));
            for (int bad : new int[] {MIN, -1, 16, MAX}) {
                to.add(of("lanes, set " + bad, OUTSIDE, x -> x.lanes(a, bad)));
            }
            for (int bad : new int[] {MIN, -1, 7, MAX}) {
                to.add(of("arm, what " + bad, OUTSIDE, x -> x.arm(a, bad)));
            }
        }
    }

    private static void outsideOfTheRest(List<Refusal> to) {
        for (int bad : new int[] {MIN, -1, 5, MAX}) {
            to.add(of("plan, what " + bad, OUTSIDE, x -> x.plan(bad)));
        }
        for (int bad : new int[] {MIN, -1, 6, MAX}) {
            to.add(of("tray, PART " + bad, OUTSIDE, x -> x.tray(0, bad)));
            to.add(of("tray, TRAY and PART " + bad, OUTSIDE, x -> x.tray(bad, bad)));
        }
        for (int bad : new int[] {MIN, -1, 3, MAX}) {
            to.add(of("tray, TRAY " + bad, OUTSIDE, x -> x.tray(bad, 0)));
        }
        for (int bad : new int[] {MIN, -1, 2, MAX}) {
            to.add(of("set, what " + bad, OUTSIDE, x -> x.set(bad, 5)));
            to.add(of("image, k " + bad, OUTSIDE, x -> x.image(bad)));
            to.add(of("restore, k, not STATE, " + bad, OUTSIDE, x -> x.restore(bad)));
        }
        for (int bad : new int[] {MIN, -1, 21, MAX}) {
            to.add(of("set, NEAR " + bad, OUTSIDE, x -> x.set(0, bad)));
        }
        for (int bad : new int[] {MIN, -1, 0, 7, MAX}) {
            to.add(of("set, SHARE " + bad, OUTSIDE, x -> x.set(1, bad)));
        }
        for (int bad : new int[] {MIN, -1, 6, 9, 13, MAX}) {
            to.add(of("count, what " + bad, OUTSIDE, x -> x.count(bad)));
        }
    }

    // ---- the scenes, and what is refused in each alone

    private static BeltArms newOne() {
        return new BeltArms();
    }

    private static List<Refusal> noThing() {
        List<Refusal> to = new ArrayList<>();
        to.add(of("drop, no THING", UNKNOWN, x -> x.drop(0)));
        to.add(of("thing, no THING", UNKNOWN, x -> x.thing(0, 0)));
        to.add(of("thing, no THING, not NONE", UNKNOWN, x -> x.thing(0, 5)));
        to.add(of("place, no THING", UNKNOWN, x -> x.place(0, 0)));
        to.add(of("can, no THING", UNKNOWN, x -> x.can(0, 0, 0)));
        to.add(of("level, no CHANGE", NO, x -> x.level(1)));
        to.add(of("level, no CHANGE", NO, x -> x.level(300)));
        to.add(of("restore(0), nothing is kept", STATE, x -> x.restore(0)));
        to.add(of("restore(1), nothing is kept", STATE, x -> x.restore(1)));
        to.add(of("tray, SHARE is 2", OUTSIDE, x -> x.tray(2, 2)));
        to.add(of("reach, on ARM 1", NO, x -> x.reach(0, 161, 200)));
        to.add(of("reach, on ARM 2", NO, x -> x.reach(3, 360, 360)));
        return to;
    }

    /** All that can be told has been told once; IMAGE 1 is kept, IMAGE 0 is not. */
    private static BeltArms usedOne() {
        BeltArms x = new BeltArms();
        x.see(0, 3, 5, 1);
        x.image(1);
        x.speed(0, 3);
        x.speed(60, 1);
        x.speed(90, 6);
        x.see(0, 0, 10, 0);
        x.see(4, 0, 21, 0);
        x.see(2, 1, 10, 2);
        x.see(30, 1, 0, 2);
        x.see(31, 2, 0, 2);
        x.reach(0, 90, 110);
        x.reach(3, 600, 620);
        x.beat(0, 9, 4);
        x.beat(1, 20, 19);
        x.lanes(1, 11);
        x.lanes(2, 6);
        x.set(0, 5);
        x.set(1, 3);
        return x;
    }

    private static List<Refusal> usedUp() {
        List<Refusal> to = new ArrayList<>();
        to.add(of("drop, one too far", UNKNOWN, x -> x.drop(5)));
        to.add(of("thing, one too far", UNKNOWN, x -> x.thing(5, 0)));
        to.add(of("place, one too far", UNKNOWN, x -> x.place(5, 0)));
        to.add(of("can, one too far", UNKNOWN, x -> x.can(0, 5, 0)));
        to.add(of("thing, what 11", OUTSIDE, x -> x.thing(4, 11)));
        to.add(of("thing, what -1", OUTSIDE, x -> x.thing(0, -1)));
        to.add(of("place, TICK 301", OUTSIDE, x -> x.place(4, 301)));
        to.add(of("can, TICK 301", OUTSIDE, x -> x.can(3, 4, 301)));
        to.add(of("level, just before a CHANGE", NO, x -> x.level(59)));
        to.add(of("level, just behind a CHANGE", NO, x -> x.level(91)));
        to.add(of("restore(0), IMAGE 1 alone is kept", STATE, x -> x.restore(0)));
        to.add(of("tray, SHARE is 3", OUTSIDE, x -> x.tray(0, 3)));
        to.add(of("reach, on ARM 1's FROM", NO, x -> x.reach(0, 90, 200)));
        to.add(of("reach, on ARM 3's TILL", NO, x -> x.reach(2, 620, 999)));
        return to;
    }

    /** Twenty THINGS, eight CHANGES, both IMAGES; some THINGS are MISSED. */
    private static BeltArms fullOne() {
        BeltArms x = new BeltArms();
        for (int i = 0; i < 20; i++) {
            x.see(i / 4, i % 4, 2 * i, i % 3);
        }
        x.image(0);
        for (int i = 1; i <= 8; i++) {
            x.speed(30 * i, 9 - i);
        }
        for (int arm = 0; arm < 4; arm++) {
            x.beat(arm, 17 + arm, 2 * arm);
        }
        x.lanes(3, 5);
        x.set(1, 6);
        x.image(1);
        x.drop(7);
        x.see(250, 0, 60, 2);
        return x;
    }

    private static List<Refusal> full() {
        List<Refusal> to = new ArrayList<>();
        for (int tick : new int[] {1, 29, 31, 241, 300}) {
            to.add(of("speed, a ninth at " + tick, FULL, x -> x.speed(tick, 4)));
        }
        to.add(of("see, a twenty-first", FULL, x -> x.see(300, 3, 60, 1)));
        to.add(of("see, a twenty-first", FULL, x -> x.see(0, 0, 50, 0)));
        to.add(of("thing, what 11 of a MISSED one", OUTSIDE, x -> x.thing(19, 11)));
        to.add(of("place, TICK -1", OUTSIDE, x -> x.place(19, -1)));
        to.add(of("can, TICK -1", OUTSIDE, x -> x.can(0, 19, -1)));
        to.add(of("level, none begins there", NO, x -> x.level(300)));
        to.add(of("tray, SHARE is 6", OUTSIDE, x -> x.tray(2, 6)));
        to.add(of("reach, on ARM 0's TILL", NO, x -> x.reach(1, 160, 260)));
        return to;
    }

    /** The scenes are what they are taken for. */
    private static void scenes() {
        BeltArms used = usedOne();
        due("used: THINGS", used.count(0), 5);
        due("used: CHANGES", used.count(1), 2);
        due("used: SEEN more than once", used.count(4), 1);
        due("used: IMAGE 1", used.count(5), 2);
        BeltArms full = fullOne();
        due("full: THINGS", full.count(0), 20);
        due("full: CHANGES", full.count(1), 8);
        due("full: both IMAGES", full.count(5), 3);
        due("full: THING 19 is MISSED", full.thing(19, 5), NONE);
        due("full: THING 0 is taken", full.plan(3) & 1, 0);
        due("full: SEEN once", full.count(4), 0);
    }

    // ---- what is refused changes nothing

    private static void inEach(String name, Scene scene, List<Refusal> always, List<Refusal> here) {
        List<Refusal> all = new ArrayList<>(always);
        all.addAll(here);
        Questions[] asked = {RefusalsTest::askAll, RefusalsTest::askBelt, RefusalsTest::askChanges,
            RefusalsTest::askSeen, (x, to) -> askImage(x, 0, to), (x, to) -> askImage(x, 1, to)};
        for (Questions questions : asked) {
            List<Integer> want = new ArrayList<>();
            questions.ask(scene.make(), want);
            for (Refusal refusal : all) {
                refuse(name, scene.make(), refusal, questions, want);
                BeltArms planned = scene.make();
                planned.plan(0);
                refuse(name + ", planned", planned, refusal, questions, want);
            }
        }
    }

    private static void refuse(String name, BeltArms x, Refusal refusal, Questions questions,
            List<Integer> want) {
        String text = name + ": " + refusal.text();
        due(text, refusal.call().on(x), refusal.due());
        due(text + ", again", refusal.call().on(x), refusal.due());
        List<Integer> got = new ArrayList<>();
        questions.ask(x, got);
        int first = 0;
        while (first < want.size() && first < got.size() && want.get(first).equals(got.get(first))) {
            first++;
        }
        due(text + ": the first question that has another answer then", first, want.size());
        due(text + ": answers", got.size(), want.size());
    }

    private static void askAll(BeltArms x, List<Integer> to) {
        for (int what = 0; what <= 12; what++) {
            to.add(x.count(what));
        }
        for (int what = 0; what <= 4; what++) {
            to.add(x.plan(what));
        }
        int things = x.count(0);
        for (int i = 0; i < things; i++) {
            for (int what = 0; what <= 10; what++) {
                to.add(x.thing(i, what));
            }
        }
        for (int arm = 0; arm <= 3; arm++) {
            for (int what = 0; what <= 6; what++) {
                to.add(x.arm(arm, what));
            }
        }
        int share = x.count(3);
        for (int part = 0; part < 3 * share; part++) {
            to.add(x.tray(part / share, part % share));
        }
    }

    private static void askBelt(BeltArms x, List<Integer> to) {
        for (int tick = 0; tick <= 300; tick++) {
            to.add(x.gone(tick));
        }
    }

    /** At which TICKS a CHANGE begins is told by making them go. */
    private static void askChanges(BeltArms x, List<Integer> to) {
        for (int tick = 1; tick <= 300; tick++) {
            to.add(x.level(tick));
        }
        to.add(x.speed(0, 0));
    }

    /** At which TICKS a THING was SEEN is told by SIGHTS that would be of it at others. */
    private static void askSeen(BeltArms x, List<Integer> to) {
        x.speed(0, 0);
        for (int tick = 30; tick <= 300; tick += 30) {
            x.level(tick);
        }
        int things = x.count(0);
        for (int i = 0; i < things; i++) {
            int lane = x.thing(i, 1);
            int place = x.thing(i, 2);
            int kind = x.thing(i, 3);
            for (int tick = 0; tick < 5; tick++) {
                to.add(x.see(tick, lane, place, kind));
            }
        }
    }

    private static void askImage(BeltArms x, int k, List<Integer> to) {
        to.add(x.restore(k));
        askAll(x, to);
    }
}
