import java.util.Arrays;

/**
 * What touched what in a kitchen, when some of it may not have been.
 *
 * There are at most 64 ways in which it may have gone, so all of them are played at once:
 * bit w of a long tells of way w.
 */
public final class KitchenTouch {
    private static final int NOBODY = -1;
    private static final int OTHER = -2;
    private static final int UNFIT = -3;
    private static final int BELOW = -4;
    private static final int ROOM = -6;
    private static final int NONE = -9;
    private static final int FAULT = -20;

    private static final int VESSEL = 0;
    private static final int FOOD = 1;
    private static final int LIQUID = 2;
    private static final int PERSON = 3;
    private static final int GROUND = 4;
    private static final int JOINED = 5;
    private static final int KINDS = 6;

    private static final int TOUCH = 0;
    private static final int INSIDE = 1;
    private static final int ROOF = 2;
    private static final int CARRY = 3;
    private static final int POUR = 4;
    private static final int WASH = 5;
    private static final int BREAK = 6;
    private static final int APART = 7;
    private static final int WET = 8;
    private static final int SOURCE = 9;
    private static final int EVENT_KINDS = 10;

    private static final int MOST_THINGS = 12;
    private static final int MOST_EVENTS = 60;
    private static final int MOST_FACTS = 12;
    private static final int MOST_STEPS = 5;
    private static final int MOST_BYTES = 80;
    private static final int MOST_SOURCES = 20;
    private static final int WASHABLE = 8;
    private static final int HOURS = 48;
    private static final int SUNSET = 24;
    private static final int WAYS = 64;
    private static final int UNKNOWNS = 6;
    private static final int DEGREES = 4;

    private static final int EVENT_PARTS = 5;
    private static final int FACT_PARTS = 3;
    private static final int STEP_PARTS = 3;

    private static final int STREAM_RULE = 0;
    private static final int DOUBT_PUBLIC = 1;
    private static final int DOUBT_PRIVATE = 2;
    private static final int RULES = 3;

    /** What a thing is, as longs of a row: the ways in which its degree is 1, 2 or less, 3 or less, 4 or less. */
    private static final int UNCLEAN = 3;
    /** Behind the degrees: the number of the source that its degree came from, a long for each binary digit. */
    private static final int ORIGIN = 4;
    private static final int ORIGIN_DIGITS = 5;
    /** What one thing can hand on to another: its degrees and where they came from. */
    private static final int HANDED = 9;
    private static final int IS_WET = 9;
    private static final int IS_BROKEN = 10;
    private static final int IS_APART = 11;
    private static final int IS_WASHED = 12;
    private static final int WIDTH = 13;
    private static final int ROW = MOST_THINGS * WIDTH;

    /** The ways in which each unknown is 1. */
    private static final long[] IS_ONE = {
        0xAAAAAAAAAAAAAAAAL, 0xCCCCCCCCCCCCCCCCL, 0xF0F0F0F0F0F0F0F0L,
        0xFF00FF00FF00FF00L, 0xFFFF0000FFFF0000L, 0xFFFFFFFF00000000L
    };

    private final Store store;
    private final Store kept;
    private final Story story;
    private final Story otherStory;
    private final Doubt doubt;
    private final Doubt otherDoubt;
    private final Planner planner;
    private final HouseReader reader;
    private final int[] refusals;
    private boolean imaged;

    public KitchenTouch() {
        store = new Store();
        kept = new Store();
        story = new Story(store, 0);
        otherStory = new Story(store, KINDS);
        doubt = new Doubt(store, story);
        otherDoubt = new Doubt(store, otherStory);
        planner = new Planner(store, story);
        reader = new HouseReader(store);
        refusals = new int[7];
        imaged = false;
    }

    public int thing(int kind, boolean wet, boolean hidden) {
        if (kind < 0 || kind >= KINDS) {
            return refuse(OTHER);
        }
        if (kind == JOINED && !store.hasPartnerAhead()) {
            return refuse(UNFIT);
        }
        if (store.thingCount >= MOST_THINGS) {
            return refuse(ROOM);
        }
        return store.addThing(kind, wet, hidden);
    }

    public int takes(int kind, int v, boolean other) {
        if (kind < 0 || kind >= KINDS) {
            return refuse(OTHER);
        }
        if (v < 0) {
            return refuse(BELOW);
        }
        if (v > DEGREES) {
            return refuse(ROOM);
        }
        return store.setTaken(other ? KINDS + kind : kind, v);
    }

    public int law(int what, int v) {
        if (what < 0 || what >= RULES) {
            return refuse(OTHER);
        }
        if (v < 0) {
            return refuse(BELOW);
        }
        if (v > (what == STREAM_RULE ? 1 : 3)) {
            return refuse(ROOM);
        }
        return store.setRule(what, v);
    }

    public int event(int hour, int kind, int a, int b, int unknown) {
        if (kind < 0 || kind >= EVENT_KINDS) {
            return refuse(OTHER);
        }
        if (!store.isThere(a)) {
            return refuse(NOBODY);
        }
        if (kind <= POUR && (!store.isThere(b) || a == b)) {
            return refuse(NOBODY);
        }
        if (hour < 0 || unknown < -1 || (kind == SOURCE && b < 1)) {
            return refuse(BELOW);
        }
        if (hour >= HOURS || (kind == SOURCE && b > DEGREES) || isUnknownAbove(unknown)) {
            return refuse(ROOM);
        }
        if (store.eventCount >= MOST_EVENTS) {
            return refuse(ROOM);
        }
        return store.addEvent(hour, kind, a, b, unknown);
    }

    public int of(int event, int what) {
        if (event < 0 || event >= store.eventCount) {
            return refuse(NOBODY);
        }
        if (what < 0 || what >= EVENT_PARTS) {
            return refuse(OTHER);
        }
        return store.eventPart(event, what);
    }

    public int takeBack() {
        if (store.eventCount < 1) {
            return refuse(UNFIT);
        }
        return store.dropEvent();
    }

    public int feed(int n, long bytes) {
        if (n < 1) {
            return refuse(BELOW);
        }
        if (n > 8 || reader.length + n > MOST_BYTES) {
            return refuse(ROOM);
        }
        return reader.append(n, bytes);
    }

    public int house() {
        return reader.readAll();
    }

    public int state(int way, int thing, int hour) {
        if (!store.isThere(thing)) {
            return refuse(NOBODY);
        }
        if (way < 0 || hour < 0) {
            return refuse(BELOW);
        }
        if (way >= WAYS || hour >= HOURS) {
            return refuse(ROOM);
        }
        story.refresh();
        story.playFromStart(hour);
        return story.degree(way, thing);
    }

    public int when(int way, int thing) {
        if (!store.isThere(thing)) {
            return refuse(NOBODY);
        }
        if (way < 0) {
            return refuse(BELOW);
        }
        if (way >= WAYS) {
            return refuse(ROOM);
        }
        story.refresh();
        for (int hour = 0; hour < HOURS; hour++) {
            if ((story.uncleanAt(thing, hour) >>> way & 1L) == 1L) {
                return hour;
            }
        }
        return NONE;
    }

    public int ways(int what) {
        if (what < 0 || what > 1) {
            return refuse(OTHER);
        }
        return Long.bitCount(what == 0 ? store.everyWay() : doubt.left());
    }

    public int fact(int thing, int hour, boolean clean) {
        if (!store.isThere(thing)) {
            return refuse(NOBODY);
        }
        if (hour < 0) {
            return refuse(BELOW);
        }
        if (hour >= HOURS || store.factCount >= MOST_FACTS) {
            return refuse(ROOM);
        }
        return store.addFact(thing, hour, clean);
    }

    public int forget() {
        int had = store.factCount;
        store.factCount = 0;
        return had;
    }

    public int sure(int thing, int hour) {
        int refusal = thingAndHour(thing, hour);
        if (refusal != 0) {
            return refuse(refusal);
        }
        return doubt.sureIn(doubt.left(), thing, hour);
    }

    public int many(int thing, int hour) {
        int refusal = thingAndHour(thing, hour);
        if (refusal != 0) {
            return refuse(refusal);
        }
        return Long.bitCount(doubt.cleanIn(doubt.left(), thing, hour));
    }

    public int judged(int thing, int hour) {
        int refusal = thingAndHour(thing, hour);
        if (refusal != 0) {
            return refuse(refusal);
        }
        return doubt.judge(doubt.left(), thing, hour);
    }

    public int rivals(int hour) {
        if (hour < 0) {
            return refuse(BELOW);
        }
        if (hour >= HOURS) {
            return refuse(ROOM);
        }
        return doubt.fewestRivals(doubt.left(), hour);
    }

    public int question(int hour, int what) {
        if (what < 0 || what > 1) {
            return refuse(OTHER);
        }
        if (hour < 0) {
            return refuse(BELOW);
        }
        if (hour >= HOURS) {
            return refuse(ROOM);
        }
        return doubt.bestQuestion(doubt.left(), hour, what);
    }

    public int sources(int thing, int hour) {
        int refusal = thingAndHour(thing, hour);
        if (refusal != 0) {
            return refuse(refusal);
        }
        long left = doubt.left();
        story.playFromStart(hour);
        return story.originBits(thing, left);
    }

    public int washing(int hour, int things) {
        if (hour < 0 || things < 0) {
            return refuse(BELOW);
        }
        if (!store.areThere(things)) {
            return refuse(NOBODY);
        }
        if (hour >= HOURS) {
            return refuse(ROOM);
        }
        return planner.fewestWashes(hour, things, doubt.left());
    }

    public int step(int kind, int a, int b) {
        if (kind < TOUCH || kind > POUR) {
            return refuse(OTHER);
        }
        if (!store.isThere(a) || !store.isThere(b) || a == b) {
            return refuse(NOBODY);
        }
        if (store.stepCount >= MOST_STEPS) {
            return refuse(ROOM);
        }
        return store.addStep(kind, a, b);
    }

    public int clear() {
        int had = store.stepCount;
        store.stepCount = 0;
        return had;
    }

    public int cooking(int things) {
        if (things < 0) {
            return refuse(BELOW);
        }
        if (!store.areThere(things)) {
            return refuse(NOBODY);
        }
        return planner.firstOrder(things, doubt.left());
    }

    public int beside(int hour) {
        if (hour < 0) {
            return refuse(BELOW);
        }
        if (hour >= HOURS) {
            return refuse(ROOM);
        }
        long left = doubt.left();
        long otherLeft = otherDoubt.left();
        int differing = 0;
        for (int thing = 0; thing < store.thingCount; thing++) {
            if (doubt.sureIn(left, thing, hour) != otherDoubt.sureIn(otherLeft, thing, hour)) {
                differing |= 1 << thing;
            }
        }
        return differing;
    }

    public int image() {
        kept.copyFrom(store);
        imaged = true;
        return store.eventCount;
    }

    public int restore() {
        if (!imaged) {
            return refuse(UNFIT);
        }
        store.copyFrom(kept);
        return store.eventCount;
    }

    public int count(int what) {
        switch (what) {
            case 0:
                return store.thingCount;
            case 1:
                return store.eventCount;
            case 2:
                return Integer.bitCount(store.namedUnknowns());
            case 3:
                return store.factCount;
            case 4:
                return store.stepCount;
            case 5:
                return reader.length;
            default:
                return what >= 11 && what <= 16 ? refusals[what - 10] : NONE;
        }
    }

    private int refuse(int number) {
        int place = -number;
        if (place >= 0 && place < refusals.length) {
            refusals[place]++;
        }
        return number;
    }

    /** The refusal of a thing and an hour, or 0. */
    private int thingAndHour(int thing, int hour) {
        if (!store.isThere(thing)) {
            return NOBODY;
        }
        if (hour < 0) {
            return BELOW;
        }
        return hour >= HOURS ? ROOM : 0;
    }

    /** Of numbers from -1 on: -1 .. 5 and 10 .. 15 tell an unknown. */
    private static boolean isUnknownAbove(int unknown) {
        return unknown >= UNKNOWNS && (unknown < 10 || unknown >= 10 + UNKNOWNS);
    }

    private static boolean hasSecond(int eventKind) {
        return eventKind <= POUR || eventKind == SOURCE;
    }

    private static boolean isVessel(int kind) {
        return kind == VESSEL || kind == JOINED;
    }

    private static boolean isFood(int kind) {
        return kind == FOOD || kind == LIQUID;
    }

    private static long waysToldBy(int unknown) {
        if (unknown >= 0 && unknown < UNKNOWNS) {
            return IS_ONE[unknown];
        }
        if (unknown >= 10 && unknown < 10 + UNKNOWNS) {
            return ~IS_ONE[unknown - 10];
        }
        return -1L;
    }

    /** All that an image holds. */
    private static final class Store {
        final int[] kinds = new int[MOST_THINGS];
        /** What each kind takes by the law, and behind that by the other law. */
        final int[] taken = {1, 2, 3, 1, 0, 1, 1, 2, 3, 1, 0, 1};
        final int[] rules = {0, 1, 0};
        final int[] events = new int[MOST_EVENTS * EVENT_PARTS];
        final int[] facts = new int[MOST_FACTS * FACT_PARTS];
        final int[] steps = new int[MOST_STEPS * STEP_PARTS];
        int thingCount;
        int eventCount;
        int factCount;
        int stepCount;
        int wetThings;
        int hiddenThings;
        /** Grows with each change that a story must be played anew for. */
        int changes;

        boolean isThere(int thing) {
            return thing >= 0 && thing < thingCount;
        }

        boolean areThere(int things) {
            return things >>> thingCount == 0;
        }

        int kindOf(int thing) {
            return thing >= 0 && thing < kinds.length ? kinds[thing] : GROUND;
        }

        boolean isHidden(int thing) {
            return (hiddenThings >>> thing & 1) == 1;
        }

        boolean isWet(int thing) {
            return (wetThings >>> thing & 1) == 1;
        }

        boolean hasPartnerAhead() {
            return thingCount > 0 && kindOf(thingCount - 1) != GROUND;
        }

        int ruleOf(int what) {
            return what >= 0 && what < rules.length ? rules[what] : 0;
        }

        int takenBy(int place) {
            return place >= 0 && place < taken.length ? taken[place] : 0;
        }

        int eventPart(int event, int what) {
            int place = event * EVENT_PARTS + what;
            return place >= 0 && place < events.length ? events[place] : 0;
        }

        int factPart(int fact, int what) {
            int place = fact * FACT_PARTS + what;
            return place >= 0 && place < facts.length ? facts[place] : 0;
        }

        int stepPart(int step, int what) {
            int place = step * STEP_PARTS + what;
            return place >= 0 && place < steps.length ? steps[place] : 0;
        }

        int addThing(int kind, boolean wet, boolean hidden) {
            int number = thingCount;
            if (number < 0 || number >= kinds.length) {
                return ROOM;
            }
            kinds[number] = kind;
            int bit = 1 << number;
            boolean isWet = wet || kind == LIQUID;
            wetThings = isWet ? wetThings | bit : wetThings & ~bit;
            hiddenThings = hidden ? hiddenThings | bit : hiddenThings & ~bit;
            thingCount++;
            changes++;
            return number;
        }

        int setTaken(int place, int v) {
            if (place < 0 || place >= taken.length) {
                return 0;
            }
            int was = taken[place];
            taken[place] = v;
            changes++;
            return was;
        }

        int setRule(int what, int v) {
            if (what < 0 || what >= rules.length) {
                return 0;
            }
            int was = rules[what];
            rules[what] = v;
            changes++;
            return was;
        }

        int addEvent(int hour, int kind, int a, int b, int unknown) {
            int place = eventCount * EVENT_PARTS;
            if (place < 0 || place + EVENT_PARTS > events.length) {
                return ROOM;
            }
            events[place] = hour;
            events[place + 1] = kind;
            events[place + 2] = a;
            events[place + 3] = hasSecond(kind) ? b : NONE;
            events[place + 4] = unknown;
            changes++;
            return eventCount++;
        }

        int dropEvent() {
            eventCount--;
            changes++;
            return eventCount;
        }

        int addFact(int thing, int hour, boolean clean) {
            int place = factCount * FACT_PARTS;
            if (place < 0 || place + FACT_PARTS > facts.length) {
                return ROOM;
            }
            facts[place] = thing;
            facts[place + 1] = hour;
            facts[place + 2] = clean ? 1 : 0;
            factCount++;
            return factCount;
        }

        int addStep(int kind, int a, int b) {
            int place = stepCount * STEP_PARTS;
            if (place < 0 || place + STEP_PARTS > steps.length) {
                return ROOM;
            }
            steps[place] = kind;
            steps[place + 1] = a;
            steps[place + 2] = b;
            stepCount++;
            return stepCount;
        }

        /** The unknowns that some event names, as bits. */
        int namedUnknowns() {
            int named = 0;
            for (int event = 0; event < eventCount; event++) {
                int unknown = eventPart(event, 4);
                if (unknown >= 0) {
                    named |= 1 << (unknown < 10 ? unknown : unknown - 10);
                }
            }
            return named;
        }

        /** The ways that there are: an unknown that no event names is 0 in all of them. */
        long everyWay() {
            int named = namedUnknowns();
            long every = -1L;
            for (int u = 0; u < UNKNOWNS; u++) {
                if ((named >>> u & 1) == 0) {
                    every &= ~IS_ONE[u];
                }
            }
            return every;
        }

        void copyFrom(Store from) {
            copyRow(from.kinds, kinds);
            copyRow(from.taken, taken);
            copyRow(from.rules, rules);
            copyRow(from.events, events);
            copyRow(from.facts, facts);
            copyRow(from.steps, steps);
            thingCount = from.thingCount;
            eventCount = from.eventCount;
            factCount = from.factCount;
            stepCount = from.stepCount;
            wetThings = from.wetThings;
            hiddenThings = from.hiddenThings;
            changes++;
        }

        private static void copyRow(int[] from, int[] to) {
            System.arraycopy(from, 0, to, 0, Math.min(from.length, to.length));
        }
    }

    /** The events played in all ways at once, by the law or by the other one. */
    private static final class Story {
        private final Store store;
        private final int lawPlace;
        /** What each thing is at the place in time up to which was played last. */
        final long[] now = new long[ROW];
        private final long[] uncleanByHour = new long[HOURS * MOST_THINGS];
        private final int[] order = new int[MOST_EVENTS];
        private final int[] hourStarts = new int[HOURS + 1];
        private final int[] sourceNumbers = new int[MOST_EVENTS];
        private final long[] handedByA = new long[HANDED];
        private final long[] handedByB = new long[HANDED];
        private int changesSeen = -1;
        /** Whether the latest happenings changed anything. */
        boolean stirred;

        Story(Store store, int lawPlace) {
            this.store = store;
            this.lawPlace = lawPlace;
        }

        /** Plays all hours anew, if something has changed that they hang on. */
        void refresh() {
            if (changesSeen == store.changes) {
                return;
            }
            changesSeen = store.changes;
            numberSources();
            orderByHours();
            begin();
            for (int hour = 0; hour < HOURS; hour++) {
                playHours(hour, hour);
                for (int thing = 0; thing < MOST_THINGS; thing++) {
                    uncleanByHour[hour * MOST_THINGS + thing] = now[thing * WIDTH + UNCLEAN];
                }
            }
        }

        /** Asks for a refreshed story, too. */
        void playFromStart(int lastHour) {
            begin();
            playHours(0, lastHour);
        }

        /** Asks for a refreshed story. */
        long uncleanAt(int thing, int hour) {
            if (thing < 0 || thing >= MOST_THINGS || hour < 0 || hour >= HOURS) {
                return 0L;
            }
            return uncleanByHour[hour * MOST_THINGS + thing];
        }

        int degree(int way, int thing) {
            if (thing < 0 || thing >= MOST_THINGS) {
                return 0;
            }
            for (int worst = 0; worst < DEGREES; worst++) {
                if ((now[thing * WIDTH + worst] >>> way & 1L) == 1L) {
                    return worst + 1;
                }
            }
            return 0;
        }

        boolean areClean(int things, long ways) {
            for (int thing = 0; thing < MOST_THINGS; thing++) {
                if ((things >>> thing & 1) == 1 && (now[thing * WIDTH + UNCLEAN] & ways) != 0L) {
                    return false;
                }
            }
            return true;
        }

        /** The numbers of sources that a thing's degree came from in some of these ways, as bits. */
        int originBits(int thing, long ways) {
            if (thing < 0 || thing >= MOST_THINGS) {
                return 0;
            }
            int base = thing * WIDTH;
            int bits = 0;
            for (int source = 1; source <= MOST_SOURCES; source++) {
                long from = ways & now[base + UNCLEAN];
                for (int digit = 0; digit < ORIGIN_DIGITS; digit++) {
                    long plane = now[base + ORIGIN + digit];
                    from &= (source >>> digit & 1) == 1 ? plane : ~plane;
                }
                if (from != 0L) {
                    bits |= 1 << (source - 1);
                }
            }
            return bits;
        }

        /** Sources are numbered from 1 as they were told; those beyond the greatest number bear 0. */
        private void numberSources() {
            int sources = 0;
            for (int event = 0; event < MOST_EVENTS; event++) {
                sourceNumbers[event] = 0;
                if (event < store.eventCount && store.eventPart(event, 1) == SOURCE) {
                    sources++;
                    sourceNumbers[event] = sources <= MOST_SOURCES ? sources : 0;
                }
            }
        }

        private void orderByHours() {
            Arrays.fill(hourStarts, 0);
            for (int event = 0; event < store.eventCount; event++) {
                int hour = store.eventPart(event, 0);
                if (hour >= 0 && hour < HOURS) {
                    hourStarts[hour]++;
                }
            }
            for (int hour = 1; hour <= HOURS; hour++) {
                hourStarts[hour] += hourStarts[hour - 1];
            }
            // Each number is the end of its hour now; filling from the last event back makes it the start.
            for (int event = store.eventCount - 1; event >= 0; event--) {
                int hour = store.eventPart(event, 0);
                if (hour >= 0 && hour < HOURS && hourStarts[hour] > 0 && hourStarts[hour] <= MOST_EVENTS) {
                    hourStarts[hour]--;
                    order[hourStarts[hour]] = event;
                }
            }
        }

        private void begin() {
            Arrays.fill(now, 0L);
            for (int thing = 0; thing < MOST_THINGS; thing++) {
                now[thing * WIDTH + IS_WET] = store.isWet(thing) ? -1L : 0L;
            }
        }

        void playHours(int firstHour, int lastHour) {
            for (int hour = Math.max(firstHour, 0); hour <= lastHour && hour < HOURS; hour++) {
                if (hour == SUNSET) {
                    cleanTheWashed();
                }
                for (int i = hourStarts[hour]; i < hourStarts[hour + 1] && i < MOST_EVENTS; i++) {
                    int event = order[i];
                    long were = waysToldBy(store.eventPart(event, 4));
                    int kind = store.eventPart(event, 1);
                    int a = store.eventPart(event, 2);
                    int b = store.eventPart(event, 3);
                    if (kind == SOURCE) {
                        spring(a, b, were, sourceNumbers[event]);
                    } else {
                        happen(kind, a, b, were);
                    }
                }
            }
        }

        private void cleanTheWashed() {
            for (int thing = 0; thing < store.thingCount && thing < MOST_THINGS; thing++) {
                int base = thing * WIDTH;
                if (store.kindOf(thing) == PERSON) {
                    makeClean(base, now[base + IS_WASHED]);
                    now[base + IS_WASHED] = 0L;
                }
            }
        }

        /** An event of any kind but a source, in the ways in which it was. */
        void happen(int kind, int a, int b, long were) {
            if (a < 0 || a >= MOST_THINGS) {
                return;
            }
            if (kind > POUR) {
                alterOne(kind, a, were);
            } else if (b >= 0 && b < MOST_THINGS) {
                // What both had is copied first: each is given what the other had ahead of the event.
                System.arraycopy(now, a * WIDTH, handedByA, 0, HANDED);
                System.arraycopy(now, b * WIDTH, handedByB, 0, HANDED);
                if (kind == ROOF) {
                    keepFirstDegree(handedByA);
                    keepFirstDegree(handedByB);
                }
                if (kind != POUR || store.ruleOf(STREAM_RULE) == 1) {
                    give(a, handedByB, were);
                }
                if (kind != INSIDE && kind != CARRY) {
                    give(b, handedByA, were);
                }
            }
            shareAmongJoined(were);
        }

        private void alterOne(int kind, int thing, long were) {
            int base = thing * WIDTH;
            boolean vessel = isVessel(store.kindOf(thing));
            switch (kind) {
                case WASH:
                    if (vessel) {
                        makeClean(base, were);
                    } else if (store.kindOf(thing) == PERSON) {
                        long washed = were & now[base + UNCLEAN] & ~now[base + IS_WASHED];
                        stirred = stirred || washed != 0L;
                        now[base + IS_WASHED] |= washed;
                    }
                    break;
                case BREAK:
                    if (vessel) {
                        makeClean(base, were);
                        now[base + IS_BROKEN] |= were;
                    }
                    break;
                case APART:
                    now[base + IS_APART] |= were;
                    break;
                case WET:
                    now[base + IS_WET] |= were;
                    break;
                default:
                    break;
            }
        }

        private void makeClean(int base, long ways) {
            stirred = stirred || (now[base + UNCLEAN] & ways) != 0L;
            for (int worst = 0; worst < DEGREES; worst++) {
                now[base + worst] &= ~ways;
            }
        }

        /** A source gives its degree whatever the thing takes. */
        private void spring(int thing, int degree, long were, int source) {
            if (thing < 0 || thing >= MOST_THINGS) {
                return;
            }
            for (int worst = 0; worst < DEGREES; worst++) {
                handedByB[worst] = worst + 1 >= degree ? -1L : 0L;
            }
            for (int digit = 0; digit < ORIGIN_DIGITS; digit++) {
                handedByB[ORIGIN + digit] = (source >>> digit & 1) == 1 ? -1L : 0L;
            }
            int base = thing * WIDTH;
            lessen(base, handedByB, 0, were);
            now[base + IS_WASHED] &= ~were;
            shareAmongJoined(were);
        }

        private static void keepFirstDegree(long[] handed) {
            for (int worst = 1; worst < DEGREES; worst++) {
                handed[worst] = handed[0];
            }
        }

        private void give(int thing, long[] handed, long were) {
            int base = thing * WIDTH;
            int kind = store.kindOf(thing);
            int greatest = store.takenBy(lawPlace + kind);
            if (greatest < 1 || greatest > DEGREES) {
                return;
            }
            long taken = handed[greatest - 1] & were & ~now[base + IS_BROKEN];
            if (isFood(kind)) {
                taken &= now[base + IS_WET];
            }
            if (taken == 0L) {
                return;
            }
            boolean worsens = kind == LIQUID;
            handed[3] = -1L;
            handed[2] = worsens ? -1L : handed[1];
            handed[1] = worsens ? -1L : handed[0];
            handed[0] = worsens ? -1L : 0L;
            lessen(base, handed, 0, taken);
            now[base + IS_WASHED] &= ~taken;
        }

        /** By numbers, once; only a lesser degree undoes a washing here. */
        private void shareAmongJoined(long were) {
            for (int thing = 1; thing < store.thingCount && thing < MOST_THINGS; thing++) {
                if (store.kindOf(thing) == JOINED) {
                    int joined = thing * WIDTH;
                    int partner = joined - WIDTH;
                    long ways = were & ~now[joined + IS_APART] & ~now[joined + IS_BROKEN] & ~now[partner + IS_BROKEN];
                    ways &= now[joined + UNCLEAN] | now[partner + UNCLEAN];
                    if (ways != 0L) {
                        lessen(joined, now, partner, ways);
                        now[partner + IS_WASHED] &= ~lessen(partner, now, joined, ways);
                    }
                }
            }
        }

        /** Gives a thing the degrees that stand in a row, where they are less than its own: the ways in which they were. */
        private long lessen(int base, long[] from, int place, long ways) {
            long lessened = 0L;
            for (int worst = 0; worst < DEGREES; worst++) {
                long gained = from[place + worst] & ways & ~now[base + worst];
                now[base + worst] |= gained;
                lessened |= gained;
            }
            if (lessened != 0L) {
                stirred = true;
                for (int digit = ORIGIN; digit < ORIGIN + ORIGIN_DIGITS; digit++) {
                    now[base + digit] = (now[base + digit] & ~lessened) | (from[place + digit] & lessened);
                }
            }
            return lessened;
        }
    }

    /** What can be said of things when nobody knows which way it went. */
    private static final class Doubt {
        private final Store store;
        private final Story story;

        Doubt(Store store, Story story) {
            this.store = store;
            this.story = story;
        }

        /** The ways that agree with all facts; refreshes the story. */
        long left() {
            story.refresh();
            long ways = store.everyWay();
            for (int fact = 0; fact < store.factCount; fact++) {
                long unclean = story.uncleanAt(store.factPart(fact, 0), store.factPart(fact, 1));
                ways &= store.factPart(fact, 2) == 1 ? ~unclean : unclean;
            }
            return ways;
        }

        long cleanIn(long ways, int thing, int hour) {
            return ways & ~story.uncleanAt(thing, hour);
        }

        int sureIn(long ways, int thing, int hour) {
            if (ways == 0L) {
                return NONE;
            }
            long clean = cleanIn(ways, thing, hour);
            if (clean == ways) {
                return 2;
            }
            return clean == 0L ? 0 : 1;
        }

        int judge(long left, int thing, int hour) {
            if (left == 0L) {
                return NONE;
            }
            int rule = store.ruleOf(store.isHidden(thing) ? DOUBT_PRIVATE : DOUBT_PUBLIC);
            for (int h = hour; h >= 0; h--) {
                int sureness = sureIn(left, thing, h);
                if (sureness != 1) {
                    return sureness == 2 ? 1 : 0;
                }
                if (rule < 2) {
                    return rule;
                }
                if (rule == 2) {
                    int clean = Long.bitCount(cleanIn(left, thing, h));
                    return 2 * clean > Long.bitCount(left) ? 1 : 0;
                }
            }
            return 1;
        }

        int fewestRivals(long left, int hour) {
            for (int b = 1; b < store.thingCount; b++) {
                for (int a = 0; a < b; a++) {
                    if (areRivals(left, hour, a, b, b)) {
                        return (1 << a) | (1 << b);
                    }
                }
            }
            for (int c = 2; c < store.thingCount; c++) {
                for (int b = 1; b < c; b++) {
                    for (int a = 0; a < b; a++) {
                        if (areRivals(left, hour, a, b, c)) {
                            return (1 << a) | (1 << b) | (1 << c);
                        }
                    }
                }
            }
            return NONE;
        }

        private boolean areRivals(long left, int hour, int a, int b, int c) {
            long cleanA = cleanIn(left, a, hour);
            long cleanB = cleanIn(left, b, hour);
            long cleanC = cleanIn(left, c, hour);
            return cleanA != 0L && cleanB != 0L && cleanC != 0L && (cleanA & cleanB & cleanC) == 0L;
        }

        /** The question (what 0), or how many things it leaves in doubt (what 1). */
        int bestQuestion(long left, int hour, int what) {
            if (left == 0L) {
                return NONE;
            }
            int named = store.namedUnknowns();
            int best = NONE;
            int least = MOST_THINGS + 1;
            for (int u = 0; u < UNKNOWNS; u++) {
                if ((named >>> u & 1) == 1) {
                    int yes = inDoubt(left & IS_ONE[u], hour);
                    int no = inDoubt(left & ~IS_ONE[u], hour);
                    if (Math.max(yes, no) < least) {
                        least = Math.max(yes, no);
                        best = u;
                    }
                }
            }
            return what == 0 || best == NONE ? best : least;
        }

        private int inDoubt(long ways, int hour) {
            int number = 0;
            for (int thing = 0; thing < store.thingCount; thing++) {
                if (sureIn(ways, thing, hour) == 1) {
                    number++;
                }
            }
            return number;
        }
    }

    /** Washings and orders of steps that are tried on a story. */
    private static final class Planner {
        private final Store store;
        private final Story story;
        /** What things were ahead of each step, or of all washings. */
        private final long[] rows = new long[MOST_STEPS * ROW];

        Planner(Store store, Story story) {
            this.store = store;
            this.story = story;
        }

        /** Asks for a refreshed story. */
        int fewestWashes(int hour, int things, long left) {
            if (left == 0L) {
                return NONE;
            }
            story.playFromStart(hour);
            keepRow(0);
            int sets = 1 << Math.min(store.thingCount, WASHABLE);
            for (int size = 0; size <= WASHABLE; size++) {
                for (int set = 0; set < sets; set++) {
                    if (Integer.bitCount(set) == size && cleansAll(set, hour, things, left)) {
                        return set;
                    }
                }
            }
            return NONE;
        }

        /** Whether a set's washings make things clean; only told of sets whose lesser ones did not. */
        private boolean cleansAll(int set, int hour, int things, long left) {
            takeRow(0);
            for (int thing = 0; thing < WASHABLE; thing++) {
                if ((set >>> thing & 1) == 1) {
                    story.stirred = false;
                    story.happen(WASH, thing, thing, left);
                    // A washing that changes nothing: the set without it was tried, and was not enough.
                    if (!story.stirred) {
                        return false;
                    }
                }
            }
            story.playHours(hour + 1, HOURS - 1);
            return story.areClean(things, left);
        }

        /** Asks for a refreshed story. */
        int firstOrder(int things, long left) {
            if (left == 0L) {
                return NONE;
            }
            story.playFromStart(HOURS - 1);
            return orderFrom(0, 0, things, left);
        }

        /** The first order of the steps that are not done yet; as deep as there are steps. */
        private int orderFrom(int depth, int done, int things, long left) {
            if (depth >= store.stepCount || depth >= MOST_STEPS) {
                return 0;
            }
            keepRow(depth);
            for (int step = 0; step < store.stepCount; step++) {
                if ((done >>> step & 1) == 0) {
                    takeRow(depth);
                    story.happen(store.stepPart(step, 0), store.stepPart(step, 1), store.stepPart(step, 2), left);
                    if (story.areClean(things, left)) {
                        int rest = orderFrom(depth + 1, done | (1 << step), things, left);
                        if (rest != NONE) {
                            return rest * 6 + step + 1;
                        }
                    }
                }
            }
            return NONE;
        }

        private void keepRow(int depth) {
            if (depth >= 0 && depth < MOST_STEPS) {
                System.arraycopy(story.now, 0, rows, depth * ROW, ROW);
            }
        }

        private void takeRow(int depth) {
            if (depth >= 0 && depth < MOST_STEPS) {
                System.arraycopy(rows, depth * ROW, story.now, 0, ROW);
            }
        }
    }

    /** The text, and how it is read as a house. */
    private static final class HouseReader {
        private static final int END = -1;
        private static final int FAULTY = -2;
        private final Store store;
        private final int[] text = new int[MOST_BYTES];
        int length;
        private int place;

        HouseReader(Store store) {
            this.store = store;
        }

        int append(int n, long bytes) {
            for (int i = 0; i < n && length < text.length; i++) {
                text[length] = (int) (bytes >>> 8 * i) & 255;
                length++;
            }
            return length;
        }

        int readAll() {
            int came = 0;
            boolean whole = true;
            place = 0;
            while (whole && place < length && came <= MOST_BYTES) {
                whole = readStatement();
                if (whole) {
                    came++;
                }
            }
            length = 0;
            return whole ? came : FAULT - place;
        }

        /** Each reading answers false where it meets a fault, and leaves the place at it. */
        private boolean readStatement() {
            switch (sign()) {
                case 't':
                    return readThing();
                case 'e':
                    return readEvent();
                case 'k':
                    return readTaken();
                default:
                    return false;
            }
        }

        private boolean readThing() {
            if (store.thingCount >= MOST_THINGS) {
                return false;
            }
            place++;
            int kind = digit();
            if (kind < 0 || kind >= KINDS || (kind == JOINED && !store.hasPartnerAhead())) {
                return false;
            }
            place++;
            boolean wet = skip('w');
            boolean hidden = skip('p');
            if (!skip(';')) {
                return false;
            }
            store.addThing(kind, wet, hidden);
            return true;
        }

        private boolean readTaken() {
            place++;
            int kind = digit();
            if (kind < 0 || kind >= KINDS) {
                return false;
            }
            place++;
            int v = digit();
            if (v < 0 || v > DEGREES) {
                return false;
            }
            place++;
            if (!skip(';')) {
                return false;
            }
            store.setTaken(kind, v);
            return true;
        }

        private boolean readEvent() {
            if (store.eventCount >= MOST_EVENTS) {
                return false;
            }
            place++;
            int hour = readNumber(0, HOURS - 1, END);
            if (hour == FAULTY || !skip(',')) {
                return false;
            }
            int kind = digit();
            if (kind < 0) {
                return false;
            }
            place++;
            if (!skip(',')) {
                return false;
            }
            int a = readNumber(0, store.thingCount - 1, END);
            if (a == FAULTY) {
                return false;
            }
            int b = NONE;
            if (hasSecond(kind)) {
                if (!skip(',')) {
                    return false;
                }
                b = kind == SOURCE ? readNumber(1, DEGREES, END) : readNumber(0, store.thingCount - 1, a);
                if (b == FAULTY) {
                    return false;
                }
            }
            int unknown = readUnknown();
            if (unknown == FAULTY || !skip(';')) {
                return false;
            }
            store.addEvent(hour, kind, a, b, unknown);
            return true;
        }

        /** -1 if none is told. */
        private int readUnknown() {
            int told = sign();
            if (told != '?' && told != '!') {
                return -1;
            }
            place++;
            int u = digit();
            if (u < 0 || u >= UNKNOWNS) {
                return FAULTY;
            }
            place++;
            return told == '?' ? u : 10 + u;
        }

        /** A number of one or two digits, within a range and not the barred one; behind a 0 comes no other digit. */
        private int readNumber(int least, int greatest, int barred) {
            int first = place;
            int number = digit();
            if (number < 0) {
                return FAULTY;
            }
            place++;
            int second = digit();
            if (number > 0 && second >= 0) {
                number = number * 10 + second;
                place++;
            }
            if (number < least || number > greatest || number == barred) {
                place = first;
                return FAULTY;
            }
            return number;
        }

        private int sign() {
            return place >= 0 && place < length && place < text.length ? text[place] : END;
        }

        /** -1 if no digit stands here. */
        private int digit() {
            int sign = sign();
            return sign >= '0' && sign <= '9' ? sign - '0' : -1;
        }

        private boolean skip(char wanted) {
            if (sign() != wanted) {
                return false;
            }
            place++;
            return true;
        }
    }
}
