import java.util.Arrays;

/**
 * Arms over a belt. The words in capitals are those of the document.
 *
 * <p>The state that is told lives in {@link State}; THE PLAN and the TRAYS are worked out of it
 * when they are asked for, and kept until something is told that could change them.
 */
public final class BeltArms {
    public static final int UNKNOWN = -1, OUTSIDE = -2, STATE = -3, FULL = -4, NO = -5, NONE = -6;

    private static final int LAST_TICK = 300;
    private static final int TICKS = LAST_TICK + 1;
    private static final int LANES = 4;
    private static final int ALL_LANES = 15;
    private static final int LAST_SIGHT_PLACE = 60;
    private static final int KINDS = 3;
    private static final int MOST_SPEED = 9;
    private static final int MOST_CHANGES = 8;
    private static final int MOST_THINGS = 20;
    private static final int MOST_NEAR = 20;
    private static final int ARMS = 4;
    private static final int LAST_REACHED = 999;
    private static final int MOST_BEAT = 20;
    private static final int MOST_SHARE = 6;
    private static final int IMAGES = 2;
    private static final int PLACE_ADDED = 10000;
    private static final int NOBODY = -1;
    private static final int NOWHERE = -1;

    private final State now = new State();
    private final State[] images = {new State(), new State()};
    private int kept = 0;
    private final Plan thePlan = new Plan();
    private final Plan lessOneArm = new Plan();
    private final Trays trays = new Trays();
    private boolean stale = true;

    public BeltArms() {
    }

    // ---- 1 the belt, things

    public int speed(int tick, int n) {
        if (!isTick(tick) || !isWithin(n, 0, MOST_SPEED)) {
            return OUTSIDE;
        }
        Belt belt = now.belt;
        if (tick != 0 && belt.changeAt(tick) < 0 && belt.changes >= MOST_CHANGES) {
            return FULL;
        }
        int before = belt.speedAt(tick);
        belt.tell(tick, n);
        stale = true;
        return before;
    }

    public int level(int tick) {
        if (!isWithin(tick, 1, LAST_TICK)) {
            return OUTSIDE;
        }
        int change = now.belt.changeAt(tick);
        if (change < 0) {
            return NO;
        }
        now.belt.forget(change);
        stale = true;
        return now.belt.changes;
    }

    public int gone(int tick) {
        return isTick(tick) ? now.belt.goneAt[tick] : OUTSIDE;
    }

    public int see(int tick, int lane, int place, int kind) {
        if (!isTick(tick) || !isWithin(lane, 0, LANES - 1)
                || !isWithin(place, 0, LAST_SIGHT_PLACE) || !isWithin(kind, 0, KINDS - 1)) {
            return OUTSIDE;
        }
        Things things = now.things;
        int known = now.nearest(tick, lane, place, kind);
        if (known >= 0) {
            things.markSeen(known, tick);
            return known;
        }
        if (things.count >= MOST_THINGS) {
            return FULL;
        }
        things.append(tick, lane, place, kind);
        stale = true;
        return things.count - 1;
    }

    public int drop(int thing) {
        if (!isThing(thing)) {
            return UNKNOWN;
        }
        now.things.remove(thing);
        stale = true;
        return now.things.count;
    }

    public int thing(int thing, int what) {
        if (!isThing(thing)) {
            return UNKNOWN;
        }
        Things things = now.things;
        switch (what) {
            case 0:
                return things.ticks[thing];
            case 1:
                return things.lanes[thing];
            case 2:
                return things.places[thing];
            case 3:
                return things.kinds[thing];
            case 4:
                return things.timesSeen(thing);
            case 5:
                return freshPlan().tickOf(thing);
            case 6:
                return freshPlan().armOf(thing);
            case 7:
                freshPlan();
                return trays.parts[thing];
            case 8:
                return now.firstChance(thing);
            case 9:
                return now.lastChance(thing);
            case 10:
                return now.chances(thing);
            default:
                return OUTSIDE;
        }
    }

    public int place(int thing, int tick) {
        if (!isThing(thing)) {
            return UNKNOWN;
        }
        return isTick(tick) ? now.placeAt(thing, tick) + PLACE_ADDED : OUTSIDE;
    }

    // ---- 2 arms

    public int reach(int arm, int from, int till) {
        if (!isArm(arm)) {
            return UNKNOWN;
        }
        if (!isWithin(from, 0, LAST_REACHED) || !isWithin(till, from, LAST_REACHED)) {
            return OUTSIDE;
        }
        if (now.arms.othersReach(arm, from, till)) {
            return NO;
        }
        now.arms.froms[arm] = from;
        now.arms.tills[arm] = till;
        stale = true;
        return 1;
    }

    public int beat(int arm, int n, int off) {
        if (!isArm(arm)) {
            return UNKNOWN;
        }
        if (!isWithin(n, 1, MOST_BEAT) || !isWithin(off, 0, n - 1)) {
            return OUTSIDE;
        }
        now.arms.beats[arm] = n;
        now.arms.offs[arm] = off;
        stale = true;
        return 1;
    }

    public int lanes(int arm, int set) {
        if (!isArm(arm)) {
            return UNKNOWN;
        }
        if (!isWithin(set, 0, ALL_LANES)) {
            return OUTSIDE;
        }
        int before = now.arms.laneSets[arm];
        now.arms.laneSets[arm] = set;
        stale = true;
        return before;
    }

    public int arm(int arm, int what) {
        if (!isArm(arm)) {
            return UNKNOWN;
        }
        Arms arms = now.arms;
        switch (what) {
            case 0:
                return arms.froms[arm];
            case 1:
                return arms.tills[arm];
            case 2:
                return arms.beats[arm];
            case 3:
                return arms.offs[arm];
            case 4:
                return arms.laneSets[arm];
            case 5:
                return freshPlan().takenBy(arm);
            case 6:
                lessOneArm.takeMost(now, arm);
                return freshPlan().taken - lessOneArm.taken;
            default:
                return OUTSIDE;
        }
    }

    public int can(int arm, int thing, int tick) {
        if (!isArm(arm) || !isThing(thing)) {
            return UNKNOWN;
        }
        if (!isTick(tick)) {
            return OUTSIDE;
        }
        return now.canTake(arm, thing, tick) ? 1 : 0;
    }

    public int takes(int arm, int tick) {
        if (!isArm(arm)) {
            return UNKNOWN;
        }
        if (!isTick(tick)) {
            return OUTSIDE;
        }
        int taken = freshPlan().takenAt(arm, tick);
        return taken < 0 ? NONE : taken;
    }

    // ---- 3 the plan

    public int plan(int what) {
        switch (what) {
            case 0:
                return freshPlan().taken;
            case 1:
                return now.things.count - freshPlan().taken;
            case 2:
                return freshPlan().lastTick();
            case 3:
                return freshPlan().missedSet();
            case 4:
                return freshPlan().neededSet();
            default:
                return OUTSIDE;
        }
    }

    public int tray(int kind, int part) {
        if (!isWithin(kind, 0, KINDS - 1) || !isWithin(part, 0, now.share - 1)) {
            return OUTSIDE;
        }
        freshPlan();
        return trays.laid[kind * MOST_SHARE + part];
    }

    public int set(int what, int n) {
        if (what == 0 && isWithin(n, 0, MOST_NEAR)) {
            int before = now.near;
            now.near = n;
            return before;
        }
        if (what == 1 && isWithin(n, 1, MOST_SHARE)) {
            int before = now.share;
            now.share = n;
            stale = true;
            return before;
        }
        return OUTSIDE;
    }

    // ---- 4 images

    public int image(int k) {
        if (!isWithin(k, 0, IMAGES - 1)) {
            return OUTSIDE;
        }
        images[k].copyFrom(now);
        kept |= 1 << k;
        return 1;
    }

    public int restore(int k) {
        if (!isWithin(k, 0, IMAGES - 1)) {
            return OUTSIDE;
        }
        if ((kept >> k & 1) == 0) {
            return STATE;
        }
        now.copyFrom(images[k]);
        stale = true;
        return 1;
    }

    public int count(int what) {
        switch (what) {
            case 0:
                return now.things.count;
            case 1:
                return now.belt.changes;
            case 2:
                return now.near;
            case 3:
                return now.share;
            case 4:
                return now.things.seenOften();
            case 5:
                return kept;
            case 10:
            case 11:
            case 12:
                return now.things.ofKind(what - 10);
            default:
                return OUTSIDE;
        }
    }

    private static boolean isWithin(int n, int least, int most) {
        return n >= least && n <= most;
    }

    private static boolean isTick(int tick) {
        return isWithin(tick, 0, LAST_TICK);
    }

    private static boolean isArm(int arm) {
        return isWithin(arm, 0, ARMS - 1);
    }

    private boolean isThing(int thing) {
        return isWithin(thing, 0, now.things.count - 1);
    }

    /** THE PLAN as things are; the TRAYS are laid anew with it. */
    private Plan freshPlan() {
        if (stale) {
            thePlan.takeMost(now, NOBODY);
            thePlan.settle();
            trays.lay(thePlan, now);
            stale = false;
        }
        return thePlan;
    }

    /** The SPEEDS that were told: the first one, and the CHANGES by rising TICKS. */
    private static final class Belt {
        int firstSpeed = 2;
        int changes = 0;
        final int[] ticks = new int[MOST_CHANGES];
        final int[] speeds = new int[MOST_CHANGES];
        final int[] goneAt = new int[TICKS];

        Belt() {
            addUp();
        }

        void copyFrom(Belt other) {
            firstSpeed = other.firstSpeed;
            changes = other.changes;
            System.arraycopy(other.ticks, 0, ticks, 0, MOST_CHANGES);
            System.arraycopy(other.speeds, 0, speeds, 0, MOST_CHANGES);
            System.arraycopy(other.goneAt, 0, goneAt, 0, TICKS);
        }

        private int begunBy(int tick) {
            int begun = 0;
            while (begun < changes && ticks[begun] <= tick) {
                begun++;
            }
            return begun;
        }

        int speedAt(int tick) {
            int begun = begunBy(tick);
            return begun == 0 ? firstSpeed : speeds[begun - 1];
        }

        /** Which CHANGE begins at the TICK; less than 0 if none does. */
        int changeAt(int tick) {
            int last = begunBy(tick) - 1;
            return last >= 0 && ticks[last] == tick ? last : -1;
        }

        void tell(int tick, int speed) {
            int change = changeAt(tick);
            if (tick == 0) {
                firstSpeed = speed;
            } else if (change >= 0) {
                speeds[change] = speed;
            } else if (changes < MOST_CHANGES) {
                insert(begunBy(tick), tick, speed);
            }
            addUp();
        }

        private void insert(int at, int tick, int speed) {
            for (int i = changes; i > at; i--) {
                ticks[i] = ticks[i - 1];
                speeds[i] = speeds[i - 1];
            }
            ticks[at] = tick;
            speeds[at] = speed;
            changes++;
        }

        void forget(int change) {
            changes--;
            for (int i = change; i < changes; i++) {
                ticks[i] = ticks[i + 1];
                speeds[i] = speeds[i + 1];
            }
            addUp();
        }

        private void addUp() {
            int sum = 0;
            int speed = firstSpeed;
            int next = 0;
            for (int tick = 0; tick < TICKS; tick++) {
                if (next < changes && ticks[next] == tick) {
                    speed = speeds[next];
                    next++;
                }
                goneAt[tick] = sum;
                sum += speed;
            }
        }

        /**
         * The first TICK at which GONE is no less than told; TICKS if there is none. GONE never
         * falls, so halving steps find it.
         */
        int firstTickGone(int least) {
            int before = 0;
            for (int step = 256; step > 0; step /= 2) {
                if (before + step <= TICKS && goneAt[before + step - 1] < least) {
                    before += step;
                }
            }
            return before;
        }
    }

    /** The THINGS, in the order in which they came. */
    private static final class Things {
        static final int WORD_BITS = 64;
        static final int WORDS = (TICKS + WORD_BITS - 1) / WORD_BITS;

        int count = 0;
        final int[] ticks = new int[MOST_THINGS];
        final int[] lanes = new int[MOST_THINGS];
        final int[] places = new int[MOST_THINGS];
        final int[] kinds = new int[MOST_THINGS];
        /** A bit for each TICK, WORDS words for each THING. */
        final long[] seen = new long[MOST_THINGS * WORDS];

        void copyFrom(Things other) {
            count = other.count;
            System.arraycopy(other.ticks, 0, ticks, 0, MOST_THINGS);
            System.arraycopy(other.lanes, 0, lanes, 0, MOST_THINGS);
            System.arraycopy(other.places, 0, places, 0, MOST_THINGS);
            System.arraycopy(other.kinds, 0, kinds, 0, MOST_THINGS);
            System.arraycopy(other.seen, 0, seen, 0, MOST_THINGS * WORDS);
        }

        void append(int tick, int lane, int place, int kind) {
            if (count >= MOST_THINGS) {
                return;
            }
            ticks[count] = tick;
            lanes[count] = lane;
            places[count] = place;
            kinds[count] = kind;
            for (int i = count * WORDS; i < (count + 1) * WORDS; i++) {
                seen[i] = 0L;
            }
            markSeen(count, tick);
            count++;
        }

        void remove(int thing) {
            int behind = count - thing - 1;
            System.arraycopy(ticks, thing + 1, ticks, thing, behind);
            System.arraycopy(lanes, thing + 1, lanes, thing, behind);
            System.arraycopy(places, thing + 1, places, thing, behind);
            System.arraycopy(kinds, thing + 1, kinds, thing, behind);
            System.arraycopy(seen, (thing + 1) * WORDS, seen, thing * WORDS, behind * WORDS);
            count--;
        }

        void markSeen(int thing, int tick) {
            seen[thing * WORDS + tick / WORD_BITS] |= 1L << tick % WORD_BITS;
        }

        boolean wasSeen(int thing, int tick) {
            return (seen[thing * WORDS + tick / WORD_BITS] >>> tick % WORD_BITS & 1L) != 0L;
        }

        int timesSeen(int thing) {
            int times = 0;
            for (int i = thing * WORDS; i < (thing + 1) * WORDS; i++) {
                times += Long.bitCount(seen[i]);
            }
            return times;
        }

        int seenOften() {
            int often = 0;
            for (int thing = 0; thing < count; thing++) {
                if (timesSeen(thing) > 1) {
                    often++;
                }
            }
            return often;
        }

        int ofKind(int kind) {
            int found = 0;
            for (int thing = 0; thing < count; thing++) {
                if (kinds[thing] == kind) {
                    found++;
                }
            }
            return found;
        }
    }

    /** What was told of the ARMS. */
    private static final class Arms {
        final int[] froms = {100, 200, 300, 400};
        final int[] tills = {160, 260, 360, 460};
        final int[] beats = {5, 5, 5, 5};
        final int[] offs = {0, 0, 0, 0};
        final int[] laneSets = {ALL_LANES, ALL_LANES, ALL_LANES, ALL_LANES};

        void copyFrom(Arms other) {
            System.arraycopy(other.froms, 0, froms, 0, ARMS);
            System.arraycopy(other.tills, 0, tills, 0, ARMS);
            System.arraycopy(other.beats, 0, beats, 0, ARMS);
            System.arraycopy(other.offs, 0, offs, 0, ARMS);
            System.arraycopy(other.laneSets, 0, laneSets, 0, ARMS);
        }

        boolean othersReach(int arm, int from, int till) {
            for (int other = 0; other < ARMS; other++) {
                if (other != arm && froms[other] <= till && from <= tills[other]) {
                    return true;
                }
            }
            return false;
        }

        boolean hasLane(int arm, int lane) {
            return (laneSets[arm] >> lane & 1) != 0;
        }

        boolean reaches(int arm, int place) {
            return isWithin(place, froms[arm], tills[arm]);
        }

        boolean hasBeatAt(int arm, int tick) {
            return beatFrom(arm, tick) == tick;
        }

        /** The first TICK of the ARM's beats that is no less than the one told. */
        int beatFrom(int arm, int tick) {
            int beat = Math.max(1, beats[arm]);
            return tick + Math.floorMod(offs[arm] - tick, beat);
        }

        /** The last TICK of the ARM's beats that is no greater than the one told. */
        int beatTill(int arm, int tick) {
            int beat = Math.max(1, beats[arm]);
            return tick - Math.floorMod(tick - offs[arm], beat);
        }

        /** The next ARM along the belt behind a PLACE; no two begin at one PLACE. */
        int nextAlong(int place) {
            int next = NOBODY;
            for (int arm = 0; arm < ARMS; arm++) {
                if (froms[arm] > place && (next == NOBODY || froms[arm] < froms[next])) {
                    next = arm;
                }
            }
            return next;
        }
    }

    /**
     * All but IMAGES, and what follows from it for one THING. A chance is a TICK at which an ARM
     * CAN take it.
     */
    private static final class State {
        final Belt belt = new Belt();
        final Things things = new Things();
        final Arms arms = new Arms();
        int near = 3;
        int share = 2;

        void copyFrom(State other) {
            belt.copyFrom(other.belt);
            things.copyFrom(other.things);
            arms.copyFrom(other.arms);
            near = other.near;
            share = other.share;
        }

        int placeAt(int thing, int tick) {
            return things.places[thing] + belt.goneAt[tick] - belt.goneAt[things.ticks[thing]];
        }

        /** The THING that a SIGHT is of; NOBODY if it is a new one. */
        int nearest(int tick, int lane, int place, int kind) {
            int best = NOBODY;
            int bestAway = near + 1;
            for (int thing = 0; thing < things.count; thing++) {
                if (things.lanes[thing] != lane || things.kinds[thing] != kind
                        || things.wasSeen(thing, tick)) {
                    continue;
                }
                int away = Math.abs(placeAt(thing, tick) - place);
                if (away < bestAway) {
                    best = thing;
                    bestAway = away;
                }
            }
            return best;
        }

        boolean canTake(int arm, int thing, int tick) {
            return arms.hasBeatAt(arm, tick) && tick > things.ticks[thing]
                    && arms.hasLane(arm, things.lanes[thing])
                    && arms.reaches(arm, placeAt(thing, tick));
        }

        /** The ARM's first chance; it is greater than the last one if there is none. */
        int firstChanceOf(int arm, int thing) {
            int reached = belt.firstTickGone(arms.froms[arm] - placeAt(thing, 0));
            return arms.beatFrom(arm, Math.max(reached, things.ticks[thing] + 1));
        }

        int lastChanceOf(int arm, int thing) {
            if (!arms.hasLane(arm, things.lanes[thing])) {
                return NOWHERE;
            }
            int passed = belt.firstTickGone(arms.tills[arm] + 1 - placeAt(thing, 0));
            return arms.beatTill(arm, passed - 1);
        }

        int firstChance(int thing) {
            int first = TICKS;
            for (int arm = 0; arm < ARMS; arm++) {
                int tick = firstChanceOf(arm, thing);
                if (tick <= lastChanceOf(arm, thing)) {
                    first = Math.min(first, tick);
                }
            }
            return first == TICKS ? NONE : first;
        }

        int lastChance(int thing) {
            int last = NOWHERE;
            for (int arm = 0; arm < ARMS; arm++) {
                int tick = lastChanceOf(arm, thing);
                if (tick >= firstChanceOf(arm, thing)) {
                    last = Math.max(last, tick);
                }
            }
            return last == NOWHERE ? NONE : last;
        }

        int chances(int thing) {
            int sum = 0;
            for (int arm = 0; arm < ARMS; arm++) {
                int ticks = lastChanceOf(arm, thing) - firstChanceOf(arm, thing);
                if (ticks >= 0) {
                    sum += ticks / Math.max(1, arms.beats[arm]) + 1;
                }
            }
            return sum;
        }
    }

    /**
     * A PLAN that takes most THINGS. A slot is a TICK and an ARM in one number that rises by TICKS
     * and, at one TICK, by ARMS: so the least slot is the one that THE PLAN would rather use.
     */
    private static final class Plan {
        static final int SLOTS = TICKS * ARMS;

        int count = 0;
        int taken = 0;
        /**
         * Each THING's first slots, MOST_THINGS for each. More are not needed: the other THINGS
         * cannot fill as many, so a THING that has them always finds one of these free.
         */
        private final int[] slots = new int[MOST_THINGS * MOST_THINGS];
        private final int[] slotCounts = new int[MOST_THINGS];
        private final int[] slotOf = new int[MOST_THINGS];
        private final int[] holderOf = new int[SLOTS];
        private final int[] queue = new int[MOST_THINGS];
        private final int[] wantedBy = new int[MOST_THINGS];
        private int queued = 0;
        private int reachedSet = 0;
        private int replaceableSet = 0;

        /** Some PLAN that takes most, without one ARM (NOBODY: with all). */
        void takeMost(State state, int without) {
            count = state.things.count;
            taken = 0;
            Arrays.fill(slotOf, NOWHERE);
            Arrays.fill(holderOf, NOBODY);
            for (int thing = 0; thing < count; thing++) {
                listSlots(state, thing, without);
            }
            for (int i = 0; i <= count && takeOneMore(0); i++) {
                taken++;
            }
            // What the last search, which failed, came by can give way to a THING that is MISSED.
            replaceableSet = reachedSet;
        }

        /** The belt never goes back, so the ARMS along it come by rising TICKS. */
        private void listSlots(State state, int thing, int without) {
            slotCounts[thing] = 0;
            int arm = state.arms.nextAlong(NOWHERE);
            for (int i = 0; i < ARMS && arm >= 0; i++) {
                if (arm != without) {
                    listSlotsOf(state, thing, arm);
                }
                arm = state.arms.nextAlong(state.arms.froms[arm]);
            }
        }

        private void listSlotsOf(State state, int thing, int arm) {
            int last = state.lastChanceOf(arm, thing);
            int tick = state.firstChanceOf(arm, thing);
            int listed = slotCounts[thing];
            while (tick <= last && listed < MOST_THINGS) {
                slots[thing * MOST_THINGS + listed] = tick * ARMS + arm;
                listed++;
                tick = state.arms.beatFrom(arm, tick + 1);
            }
            slotCounts[thing] = listed;
        }

        /**
         * Of the PLANS that take most, the one that the document tells: each THING in its turn gets
         * the least slot that leaves as many taken.
         */
        void settle() {
            for (int thing = 0; thing < count; thing++) {
                boolean settled = false;
                for (int i = 0; i < slotCounts[thing] && !settled; i++) {
                    settled = settleAt(thing, slots[thing * MOST_THINGS + i]);
                }
            }
        }

        /** THINGS before this one keep their slots; those behind it may be moved. */
        private boolean settleAt(int thing, int slot) {
            int holder = holderOf[slot];
            if (holder >= 0 && holder <= thing) {
                return holder == thing;
            }
            int before = slotOf[thing];
            leave(thing);
            if (holder >= 0) {
                leave(holder);
            }
            hold(thing, slot);
            if (holder < 0 || before < 0 || takeOneMore(thing + 1)) {
                return true;
            }
            hold(thing, before);
            hold(holder, slot);
            return false;
        }

        private void hold(int thing, int slot) {
            slotOf[thing] = slot;
            holderOf[slot] = thing;
        }

        private void leave(int thing) {
            int slot = slotOf[thing];
            if (slot >= 0) {
                holderOf[slot] = NOBODY;
                slotOf[thing] = NOWHERE;
            }
        }

        /**
         * Looks for a chain of THINGS, none before the first one told, that begins with one that is
         * not taken, where each could have the next one's slot and the last one a free slot; and
         * moves them so.
         */
        private boolean takeOneMore(int first) {
            queued = 0;
            reachedSet = 0;
            for (int thing = first; thing < count; thing++) {
                if (slotOf[thing] < 0) {
                    enqueue(thing, NOBODY);
                }
            }
            for (int at = 0; at < MOST_THINGS && at < queued; at++) {
                int thing = queue[at];
                int free = freeSlot(thing, first);
                if (free >= 0) {
                    moveUp(thing, free);
                    return true;
                }
            }
            return false;
        }

        /** A free slot of the THING's; if there is none, those that hold its slots come next. */
        private int freeSlot(int thing, int first) {
            for (int i = 0; i < slotCounts[thing]; i++) {
                int slot = slots[thing * MOST_THINGS + i];
                int holder = holderOf[slot];
                if (holder < 0) {
                    return slot;
                }
                if (holder >= first) {
                    enqueue(holder, thing);
                }
            }
            return NOWHERE;
        }

        private void enqueue(int thing, int wanting) {
            if ((reachedSet >> thing & 1) == 0 && queued < MOST_THINGS) {
                reachedSet |= 1 << thing;
                wantedBy[thing] = wanting;
                queue[queued] = thing;
                queued++;
            }
        }

        private void moveUp(int thing, int slot) {
            int mover = thing;
            int free = slot;
            for (int i = 0; i < MOST_THINGS && mover >= 0; i++) {
                int left = slotOf[mover];
                hold(mover, free);
                free = left;
                mover = wantedBy[mover];
            }
        }

        int tickOf(int thing) {
            return slotOf[thing] < 0 ? NONE : slotOf[thing] / ARMS;
        }

        int armOf(int thing) {
            return slotOf[thing] < 0 ? NONE : slotOf[thing] % ARMS;
        }

        int takenAt(int arm, int tick) {
            return holderOf[tick * ARMS + arm];
        }

        int takenBy(int arm) {
            int sum = 0;
            for (int thing = 0; thing < count; thing++) {
                if (armOf(thing) == arm) {
                    sum++;
                }
            }
            return sum;
        }

        int lastTick() {
            int last = NONE;
            for (int thing = 0; thing < count; thing++) {
                last = Math.max(last, tickOf(thing));
            }
            return last;
        }

        int missedSet() {
            int set = 0;
            for (int thing = 0; thing < count; thing++) {
                if (slotOf[thing] < 0) {
                    set |= 1 << thing;
                }
            }
            return set;
        }

        int neededSet() {
            return (1 << count) - 1 & ~replaceableSet;
        }

        /** The THING that is taken next behind a slot; NOBODY if none is. */
        int nextTaken(int slot) {
            int next = NOBODY;
            for (int thing = 0; thing < count; thing++) {
                if (slotOf[thing] > slot && (next == NOBODY || slotOf[thing] < slotOf[next])) {
                    next = thing;
                }
            }
            return next;
        }
    }

    /** Where THE PLAN's THINGS are laid. */
    private static final class Trays {
        /** NONE for a THING that is MISSED. */
        final int[] parts = new int[MOST_THINGS];
        /** How many THINGS each PART has, MOST_SHARE PARTS for each KIND. */
        final int[] laid = new int[KINDS * MOST_SHARE];

        void lay(Plan plan, State state) {
            Arrays.fill(parts, NONE);
            Arrays.fill(laid, 0);
            int thing = plan.nextTaken(NOWHERE);
            for (int i = 0; i < MOST_THINGS && thing >= 0; i++) {
                int tray = state.things.kinds[thing] * MOST_SHARE;
                int part = emptiest(tray, state.share);
                parts[thing] = part;
                laid[tray + part]++;
                thing = plan.nextTaken(plan.slotOf[thing]);
            }
        }

        private int emptiest(int tray, int share) {
            int best = 0;
            for (int part = 1; part < share; part++) {
                if (laid[tray + part] < laid[tray + best]) {
                    best = part;
                }
            }
            return best;
        }
    }
}
