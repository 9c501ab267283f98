import java.util.ArrayList;
import java.util.Arrays;
import java.util.List;

/**
 * Long runs of calls, drawn from a fixed row of numbers, on BeltArms and on a second telling of the
 * document that keeps to its words and takes no short cut: every answer must be the same.
 */
public final class RandomRunsTest {
    private static final int RUNS = 400;
    private static final int CALLS = 512;
    private static final String[] NAMES = {"speed", "level", "gone", "see", "drop", "thing", "place",
        "reach", "beat", "lanes", "arm", "can", "takes", "plan", "tray", "set", "image", "restore",
        "count"};

    public static void main(String[] args) {
        int runs = args.length > 0 ? Integer.parseInt(args[0]) : RUNS;
        int wrong = 0;
        for (int run = 0; run < runs && wrong < 10; run++) {
            if (!new RandomRunsTest(run).agrees()) {
                wrong++;
            }
        }
        for (int scene = 0; scene < 10 * runs && wrong < 10; scene++) {
            if (!new RandomRunsTest(scene).crowdAgrees()) {
                wrong++;
            }
        }
        int uneven = Told.checkAgainstAllPlans(300);
        System.out.println(wrong + uneven == 0 ? "all answers are as due"
                : wrong + " runs and " + uneven + " plans are not as due");
        if (wrong + uneven != 0) {
            System.exit(1);
        }
    }

    private final int run;
    private final Numbers numbers;
    /** How often a call is one that changes something. */
    private final int change;
    /** Few TICKS, PLACES and LANES make THINGS that are in one another's way. */
    private final boolean crowded;
    private final List<String> calls = new ArrayList<>();
    private final BeltArms got = new BeltArms();
    private final Told told = new Told();
    private boolean allSame = true;

    private RandomRunsTest(int run) {
        this.run = run;
        this.numbers = new Numbers(run);
        this.change = 20 + numbers.upTo(60);
        this.crowded = run % 2 == 0;
    }

    private boolean agrees() {
        for (int i = 0; i < CALLS; i++) {
            int name = numbers.upTo(99) < change ? changing() : asking();
            int[] a = numbers.upTo(99) < 4 ? wild() : arguments(name, told.things.size());
            if (!same(name, a)) {
                return false;
            }
        }
        return true;
    }

    private boolean same(int name, int... a) {
        calls.add(NAMES[name] + Arrays.toString(a));
        int answer = call(got, name, a);
        int due = told.call(name, a);
        if (answer != due && allSame) {
            allSame = false;
            System.out.println("run " + run + ", call " + calls.size() + " answered " + answer
                    + ", due is " + due + ":");
            System.out.println("  " + calls);
        }
        return answer == due;
    }

    /** THINGS that want the same few beats, and all that THE PLAN tells of them. */
    private boolean crowdAgrees() {
        int beat = 8 + numbers.upTo(12);
        for (int arm = 0; arm < 4; arm++) {
            int from = 70 + 70 * arm + numbers.upTo(15);
            same(7, arm, from, from + 5 + numbers.upTo(45));
            same(8, arm, beat + numbers.upTo(20 - beat), numbers.upTo(beat - 1));
            same(9, arm, numbers.upTo(15));
        }
        same(15, 0, 0);
        same(0, 0, 1 + numbers.upTo(3));
        same(0, 40 + numbers.upTo(100), numbers.upTo(9));
        int things = 4 + numbers.upTo(16);
        for (int i = 0; i < things; i++) {
            same(3, numbers.upTo(30), numbers.upTo(3), numbers.upTo(60), numbers.upTo(2));
        }
        for (int what = 0; what <= 4; what++) {
            same(13, what);
        }
        for (int arm = 0; arm < 4; arm++) {
            same(10, arm, 5);
            same(10, arm, 6);
        }
        for (int i = 0; i < told.things.size(); i++) {
            for (int what = 5; what <= 7; what++) {
                same(5, i, what);
            }
        }
        return allSame;
    }

    private int changing() {
        int[] weighed = {0, 0, 1, 3, 3, 3, 3, 3, 3, 4, 7, 8, 8, 9, 15, 16, 17};
        return weighed[numbers.upTo(weighed.length - 1)];
    }

    private int asking() {
        int[] weighed = {2, 5, 5, 5, 5, 6, 10, 10, 10, 11, 11, 12, 12, 13, 13, 13, 14, 14, 18};
        return weighed[numbers.upTo(weighed.length - 1)];
    }

    private int[] wild() {
        int[] a = new int[4];
        int[] odd = {Integer.MIN_VALUE, Integer.MAX_VALUE, -1, 0, 1, 4, 20, 21, 300, 301, 999, 1000};
        for (int i = 0; i < 4; i++) {
            a[i] = numbers.upTo(1) == 0 ? odd[numbers.upTo(odd.length - 1)] : numbers.upTo(25) - 3;
        }
        return a;
    }

    private int tick() {
        return crowded && numbers.upTo(3) > 0 ? numbers.upTo(6) : numbers.upTo(300);
    }

    private int changeTick() {
        return numbers.upTo(2) == 0 ? numbers.upTo(300) : 25 * numbers.upTo(12);
    }

    private int arm() {
        return numbers.upTo(3);
    }

    private int thing(int things) {
        return numbers.upTo(Math.max(0, things - 1 + (numbers.upTo(9) == 0 ? 1 : 0)));
    }

    private int[] arguments(int name, int things) {
        switch (name) {
            case 0:
                return new int[] {changeTick(), numbers.upTo(9)};
            case 1:
                return new int[] {changeTick()};
            case 2:
                return new int[] {numbers.upTo(300)};
            case 3:
                return new int[] {tick(), numbers.upTo(crowded ? 1 : 3),
                    numbers.upTo(crowded ? 12 : 60), numbers.upTo(crowded ? 1 : 2)};
            case 4:
                return new int[] {thing(things)};
            case 5:
                return new int[] {thing(things), numbers.upTo(10)};
            case 6:
                return new int[] {thing(things), numbers.upTo(300)};
            case 7:
                return reach();
            case 8:
                int beat = crowded ? 12 + numbers.upTo(8) : 1 + numbers.upTo(19);
                return new int[] {arm(), beat, numbers.upTo(beat - 1)};
            case 9:
                return new int[] {arm(), numbers.upTo(15) & (crowded ? numbers.upTo(15) : 15)};
            case 10:
                return new int[] {arm(), numbers.upTo(6)};
            case 11:
                return new int[] {arm(), thing(things), numbers.upTo(300)};
            case 12:
                return new int[] {arm(), numbers.upTo(300)};
            case 13:
                return new int[] {numbers.upTo(4)};
            case 14:
                return new int[] {numbers.upTo(2), numbers.upTo(5)};
            case 15:
                return numbers.upTo(1) == 0 ? new int[] {0, numbers.upTo(20)}
                        : new int[] {1, 1 + numbers.upTo(5)};
            case 16:
            case 17:
                return new int[] {numbers.upTo(1)};
            default:
                return new int[] {numbers.upTo(12)};
        }
    }

    private int[] reach() {
        int from = numbers.upTo(crowded ? 300 : 999);
        return new int[] {arm(), from, Math.min(999, from + numbers.upTo(crowded ? 60 : 120))};
    }

    private static int call(BeltArms x, int name, int[] a) {
        switch (name) {
            case 0: return x.speed(a[0], a[1]);
            case 1: return x.level(a[0]);
            case 2: return x.gone(a[0]);
            case 3: return x.see(a[0], a[1], a[2], a[3]);
            case 4: return x.drop(a[0]);
            case 5: return x.thing(a[0], a[1]);
            case 6: return x.place(a[0], a[1]);
            case 7: return x.reach(a[0], a[1], a[2]);
            case 8: return x.beat(a[0], a[1], a[2]);
            case 9: return x.lanes(a[0], a[1]);
            case 10: return x.arm(a[0], a[1]);
            case 11: return x.can(a[0], a[1], a[2]);
            case 12: return x.takes(a[0], a[1]);
            case 13: return x.plan(a[0]);
            case 14: return x.tray(a[0], a[1]);
            case 15: return x.set(a[0], a[1]);
            case 16: return x.image(a[0]);
            case 17: return x.restore(a[0]);
            default: return x.count(a[0]);
        }
    }

    /** The same row of numbers for the same run, on every machine. */
    private static final class Numbers {
        private long state;

        Numbers(long seed) {
            state = seed * 0x9E3779B97F4A7C15L + 12345;
        }

        int upTo(int most) {
            state += 0x9E3779B97F4A7C15L;
            long z = (state ^ state >>> 30) * 0xBF58476D1CE4E5B9L;
            z = (z ^ z >>> 27) * 0x94D049BB133111EBL;
            return (int) Long.remainderUnsigned(z ^ z >>> 31, most + 1L);
        }
    }

    private static final class Thing {
        int tick;
        int lane;
        int place;
        int kind;
        boolean[] seen = new boolean[301];

        Thing copy() {
            Thing t = new Thing();
            t.tick = tick;
            t.lane = lane;
            t.place = place;
            t.kind = kind;
            t.seen = seen.clone();
            return t;
        }

        int times() {
            int n = 0;
            for (boolean b : seen) {
                n += b ? 1 : 0;
            }
            return n;
        }
    }

    /** The document once more, told as plainly as can be. */
    private static final class Told {
        static final int UNKNOWN = -1, OUTSIDE = -2, STATE = -3, FULL = -4, NO = -5, NONE = -6;

        /** The SPEED that begins at a TICK; -1 if none does. */
        int[] begins = new int[301];
        List<Thing> things = new ArrayList<>();
        /** FROM, TILL, BEAT, OFF, LANES. */
        int[][] arms = {{100, 160, 5, 0, 15}, {200, 260, 5, 0, 15}, {300, 360, 5, 0, 15},
            {400, 460, 5, 0, 15}};
        int near = 3;
        int share = 2;
        Told[] kept = new Told[2];
        /** What THE PLAN was when it was last worked out; null since something was told. */
        private int[][] known = null;
        /** GONE at each TICK; null since something was told. */
        private int[] gone = null;

        Told() {
            Arrays.fill(begins, -1);
            begins[0] = 2;
        }

        void copy(Told other) {
            begins = other.begins.clone();
            things = new ArrayList<>();
            for (Thing t : other.things) {
                things.add(t.copy());
            }
            for (int arm = 0; arm < 4; arm++) {
                arms[arm] = other.arms[arm].clone();
            }
            near = other.near;
            share = other.share;
            known = null;
            gone = null;
        }

        int changes() {
            int n = 0;
            for (int t = 1; t <= 300; t++) {
                n += begins[t] >= 0 ? 1 : 0;
            }
            return n;
        }

        int speedAt(int tick) {
            int t = tick;
            while (begins[t] < 0) {
                t--;
            }
            return begins[t];
        }

        int goneAt(int tick) {
            if (gone == null) {
                gone = new int[301];
                for (int t = 1; t <= 300; t++) {
                    gone[t] = gone[t - 1] + speedAt(t - 1);
                }
            }
            return gone[tick];
        }

        int placeAt(Thing t, int tick) {
            return t.place + goneAt(tick) - goneAt(t.tick);
        }

        boolean can(int arm, Thing t, int tick) {
            int[] a = arms[arm];
            if ((tick - a[3]) % a[2] != 0 || tick <= t.tick || (a[4] & 1 << t.lane) == 0) {
                return false;
            }
            int p = placeAt(t, tick);
            return a[0] <= p && p <= a[1];
        }

        /** TICK * 4 + ARM of all that CAN be, rising. */
        List<Integer> pairs(Thing t, int without) {
            List<Integer> found = new ArrayList<>();
            for (int tick = 0; tick <= 300; tick++) {
                for (int arm = 0; arm < 4; arm++) {
                    if (arm != without && can(arm, t, tick)) {
                        found.add(tick * 4 + arm);
                    }
                }
            }
            return found;
        }

        List<List<Integer>> allPairs(int without) {
            List<List<Integer>> all = new ArrayList<>();
            for (Thing t : things) {
                all.add(pairs(t, without));
            }
            return all;
        }

        /** How many are taken at most; fixed[i] is a pair, -1 for any, -2 for none. */
        static int most(List<List<Integer>> pairs, int[] fixed) {
            int[] holder = new int[1204];
            Arrays.fill(holder, -1);
            int n = 0;
            for (int i = 0; i < fixed.length; i++) {
                if (fixed[i] >= 0) {
                    holder[fixed[i]] = 1000;
                    n++;
                }
            }
            for (int i = 0; i < fixed.length; i++) {
                if (fixed[i] == -1 && seat(pairs, i, holder, new boolean[1204])) {
                    n++;
                }
            }
            return n;
        }

        static boolean seat(List<List<Integer>> pairs, int thing, int[] holder, boolean[] tried) {
            for (int p : pairs.get(thing)) {
                if (holder[p] == 1000 || tried[p]) {
                    continue;
                }
                tried[p] = true;
                if (holder[p] < 0 || seat(pairs, holder[p], holder, tried)) {
                    holder[p] = thing;
                    return true;
                }
            }
            return false;
        }

        /** THE PLAN by its own words: each THING in turn tries each pair that is left. */
        static int[] planOf(List<List<Integer>> pairs) {
            int[] fixed = new int[pairs.size()];
            Arrays.fill(fixed, -1);
            int most = most(pairs, fixed);
            for (int i = 0; i < fixed.length; i++) {
                fixed[i] = -2;
                for (int p : pairs.get(i)) {
                    if (holds(fixed, i, p)) {
                        continue;
                    }
                    fixed[i] = p;
                    if (most(pairs, fixed) == most) {
                        break;
                    }
                    fixed[i] = -2;
                }
            }
            return fixed;
        }

        private static boolean holds(int[] fixed, int before, int pair) {
            for (int j = 0; j < before; j++) {
                if (fixed[j] == pair) {
                    return true;
                }
            }
            return false;
        }

        static int taken(int[] plan) {
            int n = 0;
            for (int p : plan) {
                n += p >= 0 ? 1 : 0;
            }
            return n;
        }

        static int needed(List<List<Integer>> pairs) {
            int[] fixed = new int[pairs.size()];
            Arrays.fill(fixed, -1);
            int most = most(pairs, fixed);
            int set = 0;
            for (int i = 0; i < fixed.length; i++) {
                fixed[i] = -2;
                set |= most(pairs, fixed) < most ? 1 << i : 0;
                fixed[i] = -1;
            }
            return set;
        }

        /** THE PLAN (0), the PARTS (1), the TRAYS (2), the THINGS needed (3), less each ARM (4). */
        int[][] known() {
            if (known != null) {
                return known;
            }
            List<List<Integer>> pairs = allPairs(-1);
            int[] plan = planOf(pairs);
            int[] parts = new int[plan.length];
            int[] trays = new int[18];
            Arrays.fill(parts, NONE);
            for (int slot = 0; slot < 1204; slot++) {
                for (int i = 0; i < plan.length; i++) {
                    if (plan[i] == slot) {
                        int kind = things.get(i).kind;
                        int best = 0;
                        for (int part = 0; part < share; part++) {
                            best = trays[kind * 6 + part] < trays[kind * 6 + best] ? part : best;
                        }
                        trays[kind * 6 + best]++;
                        parts[i] = best;
                    }
                }
            }
            int[] less = new int[4];
            int[] any = new int[plan.length];
            Arrays.fill(any, -1);
            for (int arm = 0; arm < 4; arm++) {
                less[arm] = taken(plan) - most(allPairs(arm), any);
            }
            known = new int[][] {plan, parts, trays, {needed(pairs)}, less};
            return known;
        }

        static boolean in(int n, int least, int most) {
            return least <= n && n <= most;
        }

        int call(int name, int[] a) {
            boolean asks = name == 2 || name == 5 || name == 6 || name >= 10 && name <= 14
                    || name == 16 || name == 18;
            int answer = name <= 6 ? belt(name, a) : name <= 12 ? armCalls(name, a) : rest(name, a);
            if (!asks) {
                known = null;
                gone = null;
            }
            return answer;
        }

        private int belt(int name, int[] a) {
            boolean thing = name >= 4 && in(a[0], 0, things.size() - 1);
            switch (name) {
                case 0:
                    if (!in(a[0], 0, 300) || !in(a[1], 0, 9)) {
                        return OUTSIDE;
                    }
                    if (begins[a[0]] < 0 && changes() == 8) {
                        return FULL;
                    }
                    int was = speedAt(a[0]);
                    begins[a[0]] = a[1];
                    return was;
                case 1:
                    if (!in(a[0], 1, 300)) {
                        return OUTSIDE;
                    }
                    if (begins[a[0]] < 0) {
                        return NO;
                    }
                    begins[a[0]] = -1;
                    return changes();
                case 2:
                    return in(a[0], 0, 300) ? goneAt(a[0]) : OUTSIDE;
                case 3:
                    return see(a);
                case 4:
                    if (!thing) {
                        return UNKNOWN;
                    }
                    things.remove(a[0]);
                    return things.size();
                case 5:
                    return thing ? ofThing(a[0], a[1]) : UNKNOWN;
                default:
                    if (!thing) {
                        return UNKNOWN;
                    }
                    return in(a[1], 0, 300) ? 10000 + placeAt(things.get(a[0]), a[1]) : OUTSIDE;
            }
        }

        private int see(int[] a) {
            if (!in(a[0], 0, 300) || !in(a[1], 0, 3) || !in(a[2], 0, 60) || !in(a[3], 0, 2)) {
                return OUTSIDE;
            }
            for (int away = 0; away <= near; away++) {
                for (int i = 0; i < things.size(); i++) {
                    Thing t = things.get(i);
                    int p = placeAt(t, a[0]);
                    if (t.lane == a[1] && t.kind == a[3] && !t.seen[a[0]]
                            && (p == a[2] + away || p == a[2] - away)) {
                        t.seen[a[0]] = true;
                        return i;
                    }
                }
            }
            if (things.size() == 20) {
                return FULL;
            }
            Thing t = new Thing();
            t.tick = a[0];
            t.lane = a[1];
            t.place = a[2];
            t.kind = a[3];
            t.seen[a[0]] = true;
            things.add(t);
            return things.size() - 1;
        }

        private int ofThing(int i, int what) {
            Thing t = things.get(i);
            if (!in(what, 0, 10)) {
                return OUTSIDE;
            }
            if (what < 5) {
                return new int[] {t.tick, t.lane, t.place, t.kind, t.times()}[what];
            }
            if (what < 8) {
                int p = known()[0][i];
                return p < 0 ? NONE : new int[] {p / 4, p % 4, known()[1][i]}[what - 5];
            }
            List<Integer> pairs = pairs(t, -1);
            if (what == 10) {
                return pairs.size();
            }
            return pairs.isEmpty() ? NONE : pairs.get(what == 8 ? 0 : pairs.size() - 1) / 4;
        }

        private int armCalls(int name, int[] a) {
            if (!in(a[0], 0, 3)) {
                return UNKNOWN;
            }
            int[] arm = arms[a[0]];
            switch (name) {
                case 7:
                    return reach(a);
                case 8:
                    if (!in(a[1], 1, 20) || !in(a[2], 0, a[1] - 1)) {
                        return OUTSIDE;
                    }
                    arm[2] = a[1];
                    arm[3] = a[2];
                    return 1;
                case 9:
                    if (!in(a[1], 0, 15)) {
                        return OUTSIDE;
                    }
                    int was = arm[4];
                    arm[4] = a[1];
                    return was;
                case 10:
                    return ofArm(a[0], a[1]);
                case 11:
                    if (!in(a[1], 0, things.size() - 1)) {
                        return UNKNOWN;
                    }
                    if (!in(a[2], 0, 300)) {
                        return OUTSIDE;
                    }
                    return can(a[0], things.get(a[1]), a[2]) ? 1 : 0;
                default:
                    if (!in(a[1], 0, 300)) {
                        return OUTSIDE;
                    }
                    for (int i = 0; i < things.size(); i++) {
                        if (known()[0][i] == a[1] * 4 + a[0]) {
                            return i;
                        }
                    }
                    return NONE;
            }
        }

        private int reach(int[] a) {
            if (!in(a[1], 0, 999) || !in(a[2], 0, 999) || a[1] > a[2]) {
                return OUTSIDE;
            }
            for (int p = a[1]; p <= a[2]; p++) {
                for (int other = 0; other < 4; other++) {
                    if (other != a[0] && in(p, arms[other][0], arms[other][1])) {
                        return NO;
                    }
                }
            }
            arms[a[0]][0] = a[1];
            arms[a[0]][1] = a[2];
            return 1;
        }

        private int ofArm(int arm, int what) {
            if (!in(what, 0, 6)) {
                return OUTSIDE;
            }
            if (what < 5) {
                return arms[arm][what];
            }
            if (what == 6) {
                return known()[4][arm];
            }
            int n = 0;
            for (int p : known()[0]) {
                n += p >= 0 && p % 4 == arm ? 1 : 0;
            }
            return n;
        }

        private int rest(int name, int[] a) {
            switch (name) {
                case 13:
                    return ofPlan(a[0]);
                case 14:
                    if (!in(a[0], 0, 2) || !in(a[1], 0, share - 1)) {
                        return OUTSIDE;
                    }
                    return known()[2][a[0] * 6 + a[1]];
                case 15:
                    return set(a[0], a[1]);
                case 16:
                    if (!in(a[0], 0, 1)) {
                        return OUTSIDE;
                    }
                    kept[a[0]] = new Told();
                    kept[a[0]].copy(this);
                    return 1;
                case 17:
                    if (!in(a[0], 0, 1)) {
                        return OUTSIDE;
                    }
                    if (kept[a[0]] == null) {
                        return STATE;
                    }
                    copy(kept[a[0]]);
                    return 1;
                default:
                    return count(a[0]);
            }
        }

        private int set(int what, int n) {
            int was = what == 0 ? near : share;
            if (what == 0 && in(n, 0, 20)) {
                near = n;
            } else if (what == 1 && in(n, 1, 6)) {
                share = n;
            } else {
                return OUTSIDE;
            }
            return was;
        }

        private int ofPlan(int what) {
            int[] plan = known()[0];
            int last = NONE;
            int missed = 0;
            for (int i = 0; i < plan.length; i++) {
                last = plan[i] >= 0 ? Math.max(last, plan[i] / 4) : last;
                missed |= plan[i] < 0 ? 1 << i : 0;
            }
            switch (what) {
                case 0: return taken(plan);
                case 1: return plan.length - taken(plan);
                case 2: return last;
                case 3: return missed;
                case 4: return known()[3][0];
                default: return OUTSIDE;
            }
        }

        private int count(int what) {
            if (what >= 10 && what <= 12) {
                int n = 0;
                for (Thing t : things) {
                    n += t.kind == what - 10 ? 1 : 0;
                }
                return n;
            }
            int twice = 0;
            for (Thing t : things) {
                twice += t.times() > 1 ? 1 : 0;
            }
            int images = (kept[0] != null ? 1 : 0) + (kept[1] != null ? 2 : 0);
            int[] answers = {things.size(), changes(), near, share, twice, images};
            return in(what, 0, 5) ? answers[what] : OUTSIDE;
        }

        /** This telling's own short cuts, against all PLANS that there are, for a few small belts. */
        static int checkAgainstAllPlans(int belts) {
            Numbers numbers = new Numbers(77);
            int uneven = 0;
            for (int b = 0; b < belts; b++) {
                int n = 1 + numbers.upTo(5);
                List<List<Integer>> pairs = new ArrayList<>();
                for (int i = 0; i < n; i++) {
                    List<Integer> row = new ArrayList<>();
                    for (int p = 0; p < 6; p++) {
                        if (numbers.upTo(2) == 0) {
                            row.add(p);
                        }
                    }
                    pairs.add(row);
                }
                int[] best = new int[n];
                Arrays.fill(best, -2);
                int[] inEach = {-1};
                tryAll(pairs, new int[n], 0, best, inEach);
                if (!Arrays.equals(best, planOf(pairs)) || inEach[0] != needed(pairs)) {
                    System.out.println("of all PLANS over " + pairs + " " + Arrays.toString(best)
                            + " is due, not " + Arrays.toString(planOf(pairs)));
                    uneven++;
                }
            }
            return uneven;
        }

        private static void tryAll(List<List<Integer>> pairs, int[] plan, int i, int[] best,
                int[] inEach) {
            if (i == plan.length) {
                weigh(plan, best, inEach);
                return;
            }
            for (int p : pairs.get(i)) {
                if (!holds(plan, i, p)) {
                    plan[i] = p;
                    tryAll(pairs, plan, i + 1, best, inEach);
                }
            }
            plan[i] = -2;
            tryAll(pairs, plan, i + 1, best, inEach);
        }

        private static void weigh(int[] plan, int[] best, int[] inEach) {
            int set = 0;
            for (int i = 0; i < plan.length; i++) {
                set |= plan[i] >= 0 ? 1 << i : 0;
            }
            int more = taken(plan) - taken(best);
            inEach[0] = more > 0 || inEach[0] < 0 ? set : more == 0 ? inEach[0] & set : inEach[0];
            for (int i = 0; i < plan.length && more == 0; i++) {
                int mine = plan[i] < 0 ? 9999 : plan[i];
                int its = best[i] < 0 ? 9999 : best[i];
                more = its - mine;
            }
            if (more > 0) {
                System.arraycopy(plan, 0, best, 0, plan.length);
            }
        }
    }
}
