/** The document's Terms III, and what is taken back or RESTORED: a test for each sentence of the fewest, the first, none. */
public final class PlanEdgesTest {
    private static final EdgeKit k = new EdgeKit("PlanEdgesTest");
    private static final int VESSEL = EdgeKit.VESSEL, FOOD = EdgeKit.FOOD, LIQUID = EdgeKit.LIQUID, PERSON = EdgeKit.PERSON;
    private static final int GROUND = EdgeKit.GROUND, JOINED = EdgeKit.JOINED;
    private static final int TOUCH = EdgeKit.TOUCH, INSIDE = EdgeKit.INSIDE, ROOF = EdgeKit.ROOF, CARRY = EdgeKit.CARRY;
    private static final int POUR = EdgeKit.POUR, WASH = EdgeKit.WASH, BREAK = EdgeKit.BREAK, APART = EdgeKit.APART;
    private static final int WET = EdgeKit.WET, SOURCE = EdgeKit.SOURCE;

    private static KitchenTouch with(KitchenTouch x, int... events) {
        return EdgeKit.with(x, events);
    }

    private static KitchenTouch kitchen(int... kinds) {
        return EdgeKit.kitchen(kinds);
    }

    private static KitchenTouch vessels(int number) {
        KitchenTouch x = new KitchenTouch();
        for (int t = 0; t < number; t++) x.thing(VESSEL, false, false);
        return x;
    }

    // ---- washings

    private static void fewest() {
        k.sentence("WASHING: the fewest of THINGS 0 .. 7, told THINGS (bits) are all clean");
        KitchenTouch x = vessels(12);
        for (int t = 0; t < 12; t++) {
            k.is("of " + t + " all clean", x.washing(0, 4095), t == 0 ? 0 : t <= 8 ? (1 << t) - 1 : -9);
            with(x, 0, SOURCE, t, 1, -1);
            k.is("the " + t + "th alone", x.washing(0, 1 << t), t < 8 ? 1 << t : -9);
            k.is("those behind the " + t + "th", x.washing(0, 4096 - (2 << t)), 0);
        }
        k.is("all that can be", x.washing(0, 255), 255);
        k.is("told none", x.washing(0, 0), 0);
        k.is("the eighth and the ninth", x.washing(0, 128 + 256), -9);
        k.sentence("told THINGS of any number: what is washed may be another");
        x = with(vessels(12), 0, SOURCE, 7, 1, -1, 1, INSIDE, 11, 7, -1, 1, INSIDE, 8, 7, -1);
        k.is("7 gives 8 and 11", x.washing(0, 1 << 11 | 1 << 8), 1 << 7);
        k.is("too late", x.washing(1, 1 << 11), -9);
        x = with(vessels(12), 0, SOURCE, 8, 1, -1, 1, INSIDE, 0, 8, -1);
        k.is("8 gives 0", x.washing(0, 1), -9);
        k.is("0 itself, behind that", x.washing(1, 1), 1);
        k.sentence("the fewest: one that gives to two, not the two");
        x = with(vessels(3), 0, SOURCE, 2, 1, -1, 2, INSIDE, 0, 2, -1, 2, INSIDE, 1, 2, -1);
        k.is("ahead of the giving", x.washing(1, 3), 4);
        k.is("behind it", x.washing(2, 3), 3);
        k.is("all three, ahead", x.washing(1, 7), 4);
        k.is("all three, behind", x.washing(2, 7), 7);
        k.sentence("Promise 21: -9 none, no WAY is LEFT");
        k.is("FOOD", with(kitchen(FOOD), 0, SOURCE, 0, 1, -1).washing(47, 1), -9);
        k.is("LIQUID", with(kitchen(LIQUID), 0, SOURCE, 0, 1, -1).washing(47, 1), -9);
        k.is("GROUND", with(kitchen(GROUND), 0, SOURCE, 0, 1, -1).washing(47, 1), -9);
        k.is("a BROKEN VESSEL", with(kitchen(VESSEL), 0, BREAK, 0, 0, -1, 0, SOURCE, 0, 1, -1).washing(47, 1), 1);
        x = vessels(1);
        x.fact(0, 0, false);
        k.is("no WAY LEFT, none told", x.washing(0, 0), -9);
        x = new KitchenTouch();
        k.is("no THINGS", x.washing(47, 0), 0);
    }

    /**
     * A PERSON (number 4) who ends clean if she is unclean when she is WASHED at hour 2: then what her JOINED one gets
     * is no lesser one. She is carried near 0 at hour 1; 0 gets what 3 had by JOINED ones, one number behind each EVENT.
     */
    private static KitchenTouch chain(int last) {
        KitchenTouch x = kitchen(VESSEL, JOINED, JOINED, JOINED, PERSON, JOINED);
        return with(x, 0, SOURCE, last, 1, -1, 1, CARRY, 4, 0, -1, 2, WASH, 4, 0, -1, 6, SOURCE, 5, 3, -1);
    }

    private static void order() {
        k.sentence("of several the least as bits; joined behind each");
        KitchenTouch x = chain(2);
        k.is("0 is not reached by itself", x.state(0, 0, 0), 0);
        k.is("she is unclean", x.state(0, 4, 47), 3);
        k.is("any washing joins: the least", x.washing(0, 16), 1);
        k.is("an hour later it is too late", x.washing(1, 16), -9);
        k.is("herself, when she is unclean", x.washing(6, 16), 16);
        k.sentence("in order of numbers, joined behind each");
        // 0, then 1: 1 gets it of 2, is washed, and gets it again; 0, then 2: 0 gets it of 1.
        x = chain(3);
        k.is("0 and 2", x.washing(0, 16), 5);
        x = with(kitchen(VESSEL, JOINED), 0, SOURCE, 0, 1, -1);
        k.is("0 gets it back of 1, 1 of 0", x.washing(0, 3), -9);
        k.is("one alone", x.washing(0, 1), -9);
        k.is("the other alone", x.washing(0, 2), -9);
        with(x, 1, APART, 1, 0, -1);
        k.is("an hour ahead of APART", x.washing(0, 3), -9);
        k.is("APART", x.washing(1, 3), 3);
        k.is("APART, one alone", x.washing(1, 2), 2);
        x = with(kitchen(VESSEL, JOINED), 0, SOURCE, 1, 1, -1, 1, BREAK, 0, 0, -1);
        k.is("the partner BROKEN", x.washing(1, 3), 2);
    }

    private static void times() {
        k.sentence("behind all EVENTS of an HOUR");
        for (int hour : new int[] {0, 1, 23, 24, 46, 47}) {
            KitchenTouch x = with(vessels(1), hour, SOURCE, 0, 1, -1);
            if (hour > 0) k.is("an hour ahead of " + hour, x.washing(hour - 1, 1), -9);
            k.is("behind " + hour, x.washing(hour, 1), 1);
            if (hour < 47) k.is("an hour behind " + hour, x.washing(hour + 1, 1), 1);
        }
        KitchenTouch x = with(vessels(2), 3, SOURCE, 0, 1, -1, 3, INSIDE, 1, 0, -1);
        k.is("behind the last of the HOUR", x.washing(3, 2), 2);
        k.sentence("clean at HOUR 47");
        x = with(vessels(1), 5, SOURCE, 0, 1, -1, 47, WASH, 0, 0, -1);
        k.is("unclean for long, clean then", x.washing(5, 1), 0);
        x = with(vessels(1), 5, SOURCE, 0, 1, -1, 6, WASH, 0, 0, -1, 47, SOURCE, 0, 1, -1);
        k.is("clean for long, unclean then", x.washing(46, 1), -9);
        k.is("and behind it", x.washing(47, 1), 1);
        k.sentence("a PERSON WASHED at HOUR 23 or ahead is clean at HOUR 47");
        x = with(kitchen(PERSON), 0, SOURCE, 0, 2, -1);
        int[] hours = {0, 22, 23, 24, 47};
        for (int hour : hours) k.is("washed at " + hour, x.washing(hour, 1), hour < 24 ? 1 : -9);
        with(x, 10, SOURCE, 0, 4, -1);
        k.is("unclean anew behind it", x.washing(9, 1), -9);
        k.is("washed behind that", x.washing(10, 1), 1);
        x = with(kitchen(PERSON), 0, SOURCE, 0, 2, -1, 1, WASH, 0, 0, -1);
        k.is("washed already", x.washing(0, 1), 0);
        x = with(kitchen(PERSON), 1, SOURCE, 0, 2, -1);
        k.is("washed while she was clean", x.washing(0, 1), -9);
        k.sentence("in all WAYS that are LEFT");
        x = with(vessels(2), 0, SOURCE, 0, 1, 0, 0, SOURCE, 1, 1, 11);
        k.is("each in some", x.washing(0, 3), 3);
        x.fact(0, 0, true);
        k.is("one by a FACT", x.washing(0, 3), 2);
        x.fact(1, 47, false);
        k.is("a FACT of hour 47 is not undone by it", x.washing(0, 3), 2);
        x.forget();
        x.fact(0, 0, true);
        x.fact(1, 0, true);
        k.is("both", x.washing(0, 3), 0);
        x.fact(1, 0, false);
        k.is("no WAY LEFT", x.washing(0, 3), -9);
    }

    // ---- cooking

    private static int digits(int... steps) {
        int number = 0;
        for (int i = steps.length - 1; i >= 0; i--) number = number * 6 + steps[i];
        return number;
    }

    /** Thing 0 is unclean, and 1 and 2 are PERSONS who take all. */
    private static KitchenTouch stove() {
        KitchenTouch x = kitchen(GROUND, PERSON, PERSON, VESSEL);
        x.takes(PERSON, 4, false);
        return with(x, 0, SOURCE, 0, 1, -1);
    }

    private static void firstOrders() {
        k.sentence("COOKING: the first order (by numbers, place by place)");
        KitchenTouch x = stove();
        int[] all = {digits(), digits(1), digits(1, 2), digits(1, 2, 3), digits(1, 2, 3, 4), digits(1, 2, 3, 4, 5)};
        for (int steps = 0; steps <= 5; steps++) {
            k.is("any order of " + steps, x.cooking(2), all[steps]);
            if (steps < 5) k.is("how many", x.step(TOUCH, 0, 3), steps + 1);
        }
        k.is("no sixth", x.step(TOUCH, 0, 1), -6);
        k.is("of five", x.cooking(2), all[5]);
        // Each makes 1 unclean, but one lets 1 near 2.
        for (int odd = 1; odd <= 5; odd++) {
            x = stove();
            for (int s = 1; s <= 5; s++) x.step(CARRY, s == odd ? 2 : 1, s == odd ? 1 : 0);
            int[] others = new int[4];
            for (int s = 1, i = 0; s <= 5; s++) if (s != odd) others[i++] = s;
            k.is("the " + odd + "th must be first", x.cooking(4), digits(odd, others[0], others[1], others[2], others[3]));
            k.is("no order for 1", x.cooking(2), -9);
            x = stove();
            for (int s = 1; s <= 5; s++) x.step(CARRY, s == odd ? 1 : 2, s == odd ? 0 : 1);
            k.is("the " + odd + "th must be last", x.cooking(4), digits(others[0], others[1], others[2], others[3], odd));
        }
        x = stove();
        x.step(CARRY, 2, 1);
        x.step(CARRY, 1, 0);
        x.step(TOUCH, 3, 2);
        k.is("of several the first at the first place", x.cooking(4), digits(1, 2, 3));
        k.is("of several the first at the second", x.cooking(8), digits(1, 2, 3));
        x.clear();
        x.step(CARRY, 1, 0);
        x.step(TOUCH, 3, 0);
        x.step(CARRY, 2, 1);
        k.is("the first that can be first", x.cooking(4), digits(2, 3, 1));
        k.sentence("0 without STEPS");
        x.clear();
        k.is("none", x.cooking(0), 0);
        k.is("though told THINGS are unclean", x.cooking(1), 0);
        k.is("no THINGS", new KitchenTouch().cooking(0), 0);
        k.sentence("Promise 24: -9 none, no WAY is LEFT");
        x.step(TOUCH, 2, 3);
        k.is("unclean already", x.cooking(1), -9);
        k.is("another is not", x.cooking(14), 1);
        x.fact(1, 0, false);
        k.is("no WAY LEFT", x.cooking(14), -9);
        x.clear();
        k.is("no WAY LEFT, no STEPS", x.cooking(0), -9);
    }

    private static void steps() {
        k.sentence("STEPS are EVENTS of KINDS 0 .. 4");
        // What 1 and 2 are told for: who is spoiled by the STEP with 0 as a, as b; by POUR with STREAM.
        int[][] rows = {{TOUCH, 1, 1}, {INSIDE, 0, 1}, {ROOF, 1, 1}, {CARRY, 0, 1}, {POUR, 1, 0}};
        for (int[] row : rows) {
            KitchenTouch x = stove();
            x.step(row[0], 0, 1);
            k.is("0 is a, kind " + row[0], x.cooking(2), row[1] == 1 ? -9 : 1);
            x.clear();
            x.step(row[0], 1, 0);
            k.is("0 is b, kind " + row[0], x.cooking(2), row[2] == 1 ? -9 : 1);
            x.law(0, 1);
            k.is("0 is b, with STREAM, kind " + row[0], x.cooking(2), row[2] == 1 || row[0] == POUR ? -9 : 1);
        }
        k.sentence("that are still to be done, behind all others, at HOUR 47");
        KitchenTouch x = stove();
        x.step(TOUCH, 1, 3);
        k.is("no EVENT", x.count(1), 1);
        k.is("no STATE", x.state(0, 1, 47), 0);
        with(x, 47, TOUCH, 0, 3, -1);
        k.is("an EVENT of hour 47 told later goes ahead", x.cooking(2), -9);
        with(x, 47, WASH, 3, 0, -1);
        k.is("and one behind it", x.cooking(2), 1);
        x = kitchen(PERSON, FOOD);
        x.thing(FOOD, true, false);
        with(x, 0, SOURCE, 0, 1, -1, 23, WASH, 0, 0, -1);
        x.step(TOUCH, 0, 2);
        k.is("behind sunset", x.cooking(4), 1);
        x = kitchen(PERSON, FOOD);
        x.thing(FOOD, true, false);
        with(x, 0, SOURCE, 0, 1, -1, 24, WASH, 0, 0, -1);
        x.step(TOUCH, 0, 2);
        k.is("washed too late for sunset", x.cooking(4), -9);
        k.sentence("behind each STEP told THINGS are clean in all WAYS that are LEFT");
        x = kitchen(VESSEL, FOOD);
        x.thing(FOOD, true, false);
        with(x, 0, SOURCE, 0, 1, 3);
        x.step(TOUCH, 0, 2);
        k.is("unclean in some", x.cooking(4), -9);
        k.is("a dry one", x.cooking(2), 1);
        x.fact(0, 0, true);
        k.is("clean in all that are LEFT", x.cooking(7), 1);
        x.forget();
        x.fact(0, 0, false);
        k.is("in none", x.cooking(4), -9);
        k.sentence("JOINED ones behind each STEP");
        x = with(kitchen(VESSEL, JOINED, JOINED, GROUND, GROUND), 0, SOURCE, 2, 1, -1);
        k.is("no STEP", x.cooking(1), 0);
        x.step(TOUCH, 3, 4);
        k.is("0 gets it by a STEP", x.cooking(1), -9);
    }

    private static void beside() {
        k.sentence("BESIDE: THINGS (bits) of which SURE at an HOUR is another one by THE OTHER LAW");
        for (int kind = 0; kind <= 5; kind++) {
            for (int v = 0; v <= 4; v++) {
                for (int d = 1; d <= 4; d++) {
                    KitchenTouch x = kitchen(GROUND, VESSEL);
                    x.thing(kind, true, false);
                    with(x, 0, BREAK, 1, 0, -1, 0, SOURCE, 0, d, -1, 1, CARRY, 2, 0, -1);
                    x.takes(kind, 0, false);
                    x.takes(kind, v, true);
                    k.is("the law takes none, the other " + v + ", kind " + kind + ", given " + d, x.beside(1), d <= v ? 4 : 0);
                    k.is("an hour ahead", x.beside(0), 0);
                    x.takes(kind, v, false);
                    k.is("both " + v + ", kind " + kind + ", given " + d, x.beside(47), 0);
                    x.takes(kind, 0, true);
                    k.is("the law takes " + v + ", kind " + kind + ", given " + d, x.beside(1), d <= v ? 4 : 0);
                }
            }
        }
        KitchenTouch x = kitchen(GROUND, VESSEL, VESSEL, VESSEL);
        with(x, 0, SOURCE, 0, 1, -1, 1, INSIDE, 1, 0, 0, 2, INSIDE, 1, 0, 10, 1, INSIDE, 2, 0, 0);
        x.takes(VESSEL, 0, true);
        k.is("in some, and clean in all", x.beside(1), 6);
        k.is("in none, and clean in all", x.beside(2), 6);
        k.sentence("all else as THE LAW");
        x = kitchen(LIQUID, GROUND, FOOD);
        with(x, 0, SOURCE, 1, 1, -1, 1, POUR, 0, 1, -1, 2, TOUCH, 0, 2, -1);
        k.is("STREAM 0", x.beside(2), 0);
        x.law(0, 1);
        k.is("STREAM 1", x.beside(2), 0);
        k.is("by it 0 is unclean", x.sure(0, 2), 0);
        x.takes(LIQUID, 0, true);
        k.is("by the other law it is not", x.beside(2), 1);
        k.sentence("(with WAYS that are LEFT by it); where no WAY is LEFT, SURE is -9");
        x = with(vessels(12), 0, SOURCE, 0, 1, 0, 1, TOUCH, 0, 1, -1);
        k.is("the same", x.beside(47), 0);
        x.takes(VESSEL, 0, true);
        k.is("one", x.beside(47), 2);
        x.fact(1, 1, true);
        k.is("0 is clean in all, or in some", x.beside(47), 1);
        x.forget();
        x.fact(1, 1, false);
        k.is("no WAY LEFT by the other law", x.beside(47), 4095);
        x.takes(VESSEL, 0, false);
        k.is("by neither", x.beside(47), 0);
        x.takes(VESSEL, 1, true);
        k.is("by the law alone", x.beside(47), 4095);
        k.is("no THINGS", new KitchenTouch().beside(0), 0);
    }

    // ---- taken back, and the image

    private static void takenBack() {
        k.sentence("The latest EVENT may be TAKEN BACK");
        KitchenTouch x = with(vessels(2), 9, SOURCE, 0, 1, 4, 3, SOURCE, 1, 2, 5);
        k.is("the one told last", x.takeBack(), 1);
        k.is("the other is there", x.of(0, 0), 9);
        k.is("its number is free", x.of(1, 0), -1);
        k.is("its UNKNOWN is not named", x.count(2), 1);
        k.is("its STATE is gone", x.state(63, 1, 47), 0);
        k.is("the other's is not", x.state(63, 0, 47), 1);
        k.is("THINGS stay", x.count(0), 2);
        k.is("the number comes again", x.event(0, WET, 0, 0, -1), 1);
        k.is("one left", x.takeBack(), 1);
        k.is("none left", x.takeBack(), 0);
        k.is("there is none", x.takeBack(), -3);
        k.is("counted", x.count(13), 1);
        for (int e = 0; e < 60; e++) with(x, 47 - e % 48, WET, 0, 0, -1);
        k.is("no room", x.event(0, WET, 0, 0, -1), -6);
        k.is("of sixty", x.takeBack(), 59);
        k.is("room again", x.event(0, SOURCE, 0, 4, -1), 59);
        k.is("done", x.state(0, 0, 0), 4);
        k.is("no room again", x.event(0, WET, 0, 0, -1), -6);
        x = EdgeKit.feed(vessels(1), "e5,9,0,3?2;e4,8,0;");
        k.is("by a HOUSE", x.house(), 2);
        k.is("taken back, too", x.takeBack(), 1);
        k.is("the first of it", x.of(0, 4), 2);
        takenBackAsTold();
    }

    private static void takenBackAsTold() {
        k.sentence("The latest EVENT: EVENTS come by calls and by a HOUSE, and only are done by HOURS");
        KitchenTouch x = with(vessels(2), 30, SOURCE, 0, 1, -1);
        EdgeKit.feed(x, "e2,8,1;e40,8,0;t0;");
        k.is("a HOUSE", x.house(), 3);
        with(x, 1, WET, 0, 0, -1);
        EdgeKit.feed(x, "e3,8,2;e4,8,3;");
        k.is("a HOUSE with a FAULT", x.house(), -20 - 12);
        int[] hours = {30, 2, 40, 1, 3};
        for (int left = 4; left >= 0; left--) {
            k.is("the HOUR of " + left, x.of(left, 0), hours[left]);
            k.is("left", x.takeBack(), left);
            k.is("gone", x.of(left, 0), -1);
        }
        k.is("there is none", x.takeBack(), -3);
        k.is("THINGS stay", x.count(0), 3);
        x = with(vessels(1), 9, SOURCE, 0, 1, -1);
        x.image();
        with(x, 8, SOURCE, 0, 2, -1);
        x.restore();
        k.is("the IMAGE's latest", x.takeBack(), 0);
    }

    private static void image() {
        k.sentence("THE IMAGE: all that there is");
        KitchenTouch x = EdgeKit.rich();
        k.is("how many EVENTS", x.image(), 6);
        k.is("none told behind", x.restore(), 6);
        while (x.count(0) < 12) x.thing(FOOD, true, true);
        while (x.count(1) < 60) with(x, 0, SOURCE, 0, 1, 5);
        while (x.count(3) < 12) x.fact(0, 0, false);
        while (x.count(4) < 5) x.step(0, 1, 2);
        k.is("full, how many EVENTS", x.restore(), 6);
        int[] due = {6, 6, 4, 2, 2};
        for (int what = 0; what < due.length; what++) k.is("count(" + what + ")", x.count(what), due[what]);
        k.is("of a full one", full().image(), 60);
        x = full();
        x.image();
        x.forget();
        x.clear();
        while (x.count(1) > 0) x.takeBack();
        k.is("full again", x.restore(), 60);
        k.is("no THING more", x.thing(VESSEL, false, false), -6);
        k.is("no EVENT more", x.event(0, WET, 0, 0, -1), -6);
        k.is("no FACT more", x.fact(0, 0, true), -6);
        k.is("no STEP more", x.step(0, 0, 1), -6);
        k.is("forgotten", x.forget(), 12);
        int[][] events = {{0, 0, 0, 1, -1}, {11, 0, 11, 0, -1}, {12, 0, 0, 1, -1}, {58 - 48, 0, 10, 11, -1}, {59 - 48, 0, 11, 0, -1}};
        int[] numbers = {0, 11, 12, 58, 59};
        for (int i = 0; i < numbers.length; i++) {
            for (int what = 0; what < 5; what++) k.is("of " + numbers[i], x.of(numbers[i], what), events[i][what]);
        }
        x = new KitchenTouch();
        k.is("of nothing", x.image(), 0);
        x.thing(VESSEL, false, false);
        with(x, 0, SOURCE, 0, 1, 0);
        k.is("nothing again", x.restore(), 0);
        k.is("no THING", x.state(0, 0, 0), -1);
        k.is("one WAY", x.ways(0), 1);
        k.sentence("THE IMAGE: all, but it: it stays, and is another only if it is taken anew");
        x = with(vessels(1), 0, SOURCE, 0, 1, 0);
        x.image();
        for (int i = 0; i < 3; i++) {
            with(x, 0, SOURCE, 0, 2, 1);
            k.is("restored", x.restore(), 1);
            k.is("ways", x.ways(0), 2);
        }
        with(x, 1, WASH, 0, 0, -1);
        k.is("taken anew", x.image(), 2);
        x.takeBack();
        k.is("the new one", x.restore(), 2);
        k.is("as it was", x.when(1, 0), 0);
        k.is("washed", x.state(1, 0, 1), 0);
        k.sentence("THE IMAGE: all, but the TEXT, REFUSALS");
        x = EdgeKit.feed(vessels(1), "t1");
        x.sure(1, 0);
        x.image();
        EdgeKit.feed(x, "w;t4");
        x.sure(1, 0);
        x.ways(2);
        x.restore();
        k.is("bytes", x.count(5), 6);
        k.is("refusals -1", x.count(11), 2);
        k.is("refusals -2", x.count(12), 1);
        k.is("the TEXT as fed", x.house(), -26);
        k.is("what was whole", x.count(0), 2);
        x.restore();
        k.is("no TEXT comes back", x.count(5), 0);
        k.is("the THING goes", x.count(0), 1);
    }

    /** All that there is, told twice, as it is and otherwise: by an image of the first the first comes back. */
    private static void imageOfEach() {
        k.sentence("THE IMAGE: each THING, EVENT, FACT, STEP and each number of both laws comes back");
        KitchenTouch x = kitchen(GROUND);
        x.image();
        x.thing(VESSEL, false, true);
        x.thing(FOOD, true, true);
        x.restore();
        x.thing(FOOD, false, false);
        x.thing(PERSON, false, false);
        with(x, 0, SOURCE, 0, 1, -1, 1, TOUCH, 0, 1, -1, 1, TOUCH, 0, 2, -1, 2, SOURCE, 1, 4, 0);
        k.is("dry, though one of its number was wet", x.state(0, 1, 1), 0);
        k.is("a PERSON, though one of her number was FOOD", x.state(0, 2, 1), 2);
        k.is("in public, though one of its number was in private", x.judged(1, 2), 1);
        x.thing(FOOD, true, true);
        x.fact(1, 2, false);
        x.step(TOUCH, 0, 3);
        x.image();
        x.restore();
        x.takeBack();
        x.takeBack();
        x.takeBack();
        with(x, 5, SOURCE, 2, 3, -1, 6, WET, 1, 0, 4, 7, WASH, 2, 0, 5);
        x.forget();
        x.fact(2, 0, true);
        x.clear();
        x.step(INSIDE, 3, 1);
        k.is("otherwise, STEPS", x.cooking(8), 1);
        k.is("otherwise, FACTS", x.ways(1), 4);
        k.is("restored", x.restore(), 4);
        int[][] events = {{0, SOURCE, 0, 1, -1}, {1, TOUCH, 0, 1, -1}, {1, TOUCH, 0, 2, -1}, {2, SOURCE, 1, 4, 0}};
        for (int e = 0; e < 4; e++) {
            for (int what = 0; what < 5; what++) k.is("of " + e, x.of(e, what), events[e][what]);
        }
        k.is("STEPS", x.cooking(8), -9);
        k.is("FACTS", x.ways(1), 1);
        k.is("the FACT", x.sure(1, 2), 0);
        x.forget();
        k.is("in public", x.judged(1, 2), 1);
        with(x, 3, TOUCH, 0, 3, 0);
        k.is("WET", x.state(1, 3, 3), 2);
        k.is("in PRIVATE", x.judged(3, 3), 0);
        k.sentence("THE IMAGE: THINGS of the same number, told otherwise behind it");
        x = new KitchenTouch();
        x.image();
        for (int t = 0; t < 12; t++) x.thing(t % 5, t % 2 == 0, t % 3 == 0);
        x.restore();
        for (int t = 0; t < 12; t++) x.thing(PERSON, false, false);
        with(x, 0, SOURCE, 0, 1, 0);
        for (int t = 1; t < 12; t++) with(x, 1, CARRY, t, 0, -1);
        for (int t = 1; t < 12; t++) {
            k.is("a PERSON, " + t, x.state(1, t, 1), 2);
            k.is("in public, " + t, x.judged(t, 1), 1);
        }
        k.sentence("THE IMAGE: what is changed behind it and comes back");
        for (int kind = 0; kind < 6; kind++) {
            for (int other = 0; other < 2; other++) {
                x = new KitchenTouch();
                x.takes(kind, 3, other == 1);
                x.image();
                x.takes(kind, 1, other == 1);
                x.restore();
                k.is("takes, " + kind + ", " + other, x.takes(kind, 0, other == 1), 3);
            }
        }
        for (int what = 0; what < 3; what++) {
            x = new KitchenTouch();
            x.law(what, 1);
            x.image();
            x.law(what, 0);
            x.restore();
            k.is("law, " + what, x.law(what, 0), 1);
        }
        k.sentence("RESTORED: what was asked ahead of it is asked anew");
        x = vessels(1);
        x.image();
        with(x, 0, SOURCE, 0, 1, -1);
        k.is("asked ahead", x.state(0, 0, 0), 1);
        x.restore();
        k.is("asked behind", x.state(0, 0, 0), 0);
        k.is("SURE", x.sure(0, 0), 2);
        k.is("BESIDE", x.beside(0), 0);
    }

    private static KitchenTouch full() {
        KitchenTouch x = vessels(12);
        for (int e = 0; e < 60; e++) with(x, e % 48, TOUCH, e % 12, (e + 1) % 12, -1);
        for (int f = 0; f < 12; f++) x.fact(f, f, true);
        for (int s = 0; s < 5; s++) x.step(s, s, 11 - s);
        return x;
    }

    public static void main(String[] args) {
        fewest();
        order();
        times();
        firstOrders();
        steps();
        beside();
        takenBack();
        image();
        imageOfEach();
        k.end();
    }
}
