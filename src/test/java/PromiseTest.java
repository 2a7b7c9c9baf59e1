/** Each promise by examples worked out by hand: ordinary calls, edges, refusals in the order in which they are told. */
public final class PromiseTest {
    private static int wrong = 0;
    private static int asked = 0;

    private static final int VESSEL = 0, FOOD = 1, LIQUID = 2, PERSON = 3, GROUND = 4, JOINED = 5;
    private static final int TOUCH = 0, INSIDE = 1, ROOF = 2, CARRY = 3, POUR = 4;
    private static final int WASH = 5, BREAK = 6, APART = 7, WET = 8, SOURCE = 9;
    private static final int MIN = Integer.MIN_VALUE, MAX = Integer.MAX_VALUE;

    private static void is(String what, long got, long want) {
        asked++;
        if (got != want) {
            wrong++;
            System.out.println(what + ": answered " + got + ", due is " + want);
        }
    }

    /** A kitchen with things of these kinds, all dry and in public. */
    private static KitchenTouch kitchen(int... kinds) {
        KitchenTouch x = new KitchenTouch();
        for (int kind : kinds) x.thing(kind, false, false);
        return x;
    }

    private static KitchenTouch with(KitchenTouch x, int... events) {
        for (int i = 0; i + 4 < events.length; i += 5) {
            int before = x.count(1);
            is("event in a setting", x.event(events[i], events[i + 1], events[i + 2], events[i + 3], events[i + 4]), before);
        }
        return x;
    }

    private static void feedAll(KitchenTouch x, String text) {
        for (int at = 0; at < text.length(); at += 8) {
            int n = Math.min(8, text.length() - at);
            long bytes = 0;
            for (int i = 0; i < n; i++) bytes |= (long) text.charAt(at + i) << 8 * i;
            x.feed(n, bytes);
        }
    }

    private static int read(KitchenTouch x, String text) {
        feedAll(x, text);
        is("bytes of " + text, x.count(5), text.length());
        int answer = x.house();
        is("no bytes behind " + text, x.count(5), 0);
        return answer;
    }

    private static void states(String what, KitchenTouch x, int way, int hour, int... due) {
        for (int t = 0; t < due.length; t++) is(what + ", thing " + t, x.state(way, t, hour), due[t]);
    }

    private static void promise1() {
        KitchenTouch x = new KitchenTouch();
        for (int what = 0; what <= 5; what++) is("1 count", x.count(what), 0);
        for (int what = 11; what <= 16; what++) is("1 refusals", x.count(what), 0);
        is("1 a new one has one way", x.ways(0), 1);
        is("1 no image", x.restore(), -3);
        for (int kind = 0; kind < 6; kind++) {
            int[] due = {1, 2, 3, 1, 0, 1};
            is("1 takes", x.takes(kind, due[kind], false), due[kind]);
            is("1 takes by the other", x.takes(kind, due[kind], true), due[kind]);
        }
        is("1 stream", x.law(0, 0), 0);
        is("1 doubt in public", x.law(1, 1), 1);
        is("1 doubt in private", x.law(2, 0), 0);
    }

    private static void promise2() {
        KitchenTouch x = new KitchenTouch();
        is("2 kind below", x.thing(-1, false, false), -2);
        is("2 kind above", x.thing(6, false, false), -2);
        is("2 kind far below", x.thing(MIN, false, false), -2);
        is("2 joined to nothing", x.thing(JOINED, true, true), -3);
        is("2 first", x.thing(PERSON, false, false), 0);
        is("2 joined to a person", x.thing(JOINED, false, false), 1);
        is("2 joined to a joined one", x.thing(JOINED, false, false), 2);
        is("2 ground", x.thing(GROUND, false, false), 3);
        is("2 joined to ground", x.thing(JOINED, false, false), -3);
        for (int i = 4; i < 11; i++) is("2 next", x.thing(i % 4, true, false), i);
        is("2 the twelfth", x.thing(GROUND, true, false), 11);
        is("2 no thirteenth", x.thing(VESSEL, false, false), -6);
        is("2 joined to ground goes ahead of room", x.thing(JOINED, false, false), -3);
        is("2 kind goes ahead of room", x.thing(6, false, false), -2);
        is("2 how many", x.count(0), 12);
        is("2 others counted", x.count(12), 4);
        is("2 states counted", x.count(13), 3);
        is("2 rooms counted", x.count(16), 1);
        // Wet food takes, dry food does not; a liquid is wet though told dry.
        KitchenTouch y = kitchen(VESSEL, FOOD);
        y.thing(FOOD, true, false);
        y.thing(LIQUID, false, false);
        with(y, 0, SOURCE, 0, 1, -1, 1, TOUCH, 0, 1, -1, 1, TOUCH, 0, 2, -1, 1, TOUCH, 0, 3, -1);
        states("2 wet or not", y, 0, 1, 1, 0, 2, 1);
    }

    private static void promise3() {
        KitchenTouch x = kitchen(VESSEL, VESSEL, JOINED);
        is("3 kind", x.takes(6, -1, false), -2);
        is("3 kind below", x.takes(-1, 5, true), -2);
        is("3 below", x.takes(0, -1, false), -4);
        is("3 above", x.takes(0, 5, true), -6);
        is("3 most", x.takes(0, 4, false), 1);
        is("3 what it was", x.takes(0, 0, false), 4);
        is("3 the other is told by itself", x.takes(0, 3, true), 1);
        is("3 the law stays", x.takes(0, 2, false), 0);
        is("3 the other stays", x.takes(0, 1, true), 3);
        is("3 joined ones have their own", x.takes(5, 1, false), 1);
        // A vessel that takes 2: of a degree 2 it gets 3; a joined one takes 1 still.
        with(x, 0, SOURCE, 0, 2, -1, 1, TOUCH, 0, 1, -1);
        states("3 takes 2", x, 0, 1, 2, 3, 3);
        KitchenTouch z = kitchen(GROUND, VESSEL, VESSEL);
        with(z, 0, SOURCE, 1, 1, -1, 1, TOUCH, 1, 0, -1);
        is("3 ground takes nothing", z.state(0, 0, 1), 0);
        z.takes(GROUND, 1, false);
        is("3 ground takes 1", z.state(0, 0, 1), 2);
    }

    private static void promise4() {
        KitchenTouch x = kitchen(LIQUID, VESSEL);
        is("4 what", x.law(3, -1), -2);
        is("4 what below", x.law(-1, 9), -2);
        is("4 below", x.law(0, -1), -4);
        is("4 stream above", x.law(0, 2), -6);
        is("4 doubt above", x.law(1, 4), -6);
        is("4 doubt in private above", x.law(2, 4), -6);
        is("4 doubt", x.law(1, 3), 1);
        is("4 doubt in private", x.law(2, 3), 0);
        is("4 doubt was", x.law(1, 0), 3);
        with(x, 0, SOURCE, 1, 1, -1, 1, POUR, 0, 1, -1);
        is("4 no stream", x.state(0, 0, 1), 0);
        is("4 stream told", x.law(0, 1), 0);
        is("4 stream", x.state(0, 0, 1), 1);
        is("4 stream was", x.law(0, 0), 1);
        is("4 no stream again", x.state(0, 0, 1), 0);
    }

    private static void promise5() {
        KitchenTouch x = kitchen(VESSEL, FOOD);
        is("5 kind", x.event(-1, 10, 9, 9, 99), -2);
        is("5 kind below", x.event(0, -1, 0, 1, -1), -2);
        is("5 a", x.event(-1, TOUCH, 2, 0, -2), -1);
        is("5 a below", x.event(48, SOURCE, -1, 0, 16), -1);
        is("5 b", x.event(-1, POUR, 0, 2, -1), -1);
        is("5 b below", x.event(-1, POUR, 0, -1, -1), -1);
        is("5 one twice", x.event(-1, CARRY, 1, 1, -1), -1);
        is("5 hour below goes ahead of above", x.event(-1, TOUCH, 0, 1, 16), -4);
        is("5 unknown below goes ahead of hour above", x.event(48, TOUCH, 0, 1, -2), -4);
        is("5 degree below goes ahead of hour above", x.event(48, SOURCE, 0, 0, -1), -4);
        is("5 hour above", x.event(48, WASH, 0, 0, -1), -6);
        is("5 degree above", x.event(0, SOURCE, 0, 5, -1), -6);
        for (int u = 6; u <= 9; u++) is("5 unknown 6 .. 9", x.event(0, TOUCH, 0, 1, u), -6);
        is("5 unknown 16", x.event(0, TOUCH, 0, 1, 16), -6);
        is("5 unknown MIN", x.event(0, TOUCH, 0, 1, MIN), -4);
        is("5 unknown MAX", x.event(0, TOUCH, 0, 1, MAX), -6);
        is("5 nothing came", x.count(1), 0);
        is("5 b counts nothing", x.event(0, WASH, 0, 0, -1), 0);
        is("5 b counts nothing either", x.event(0, WET, 1, 77, 5), 1);
        is("5 b below counts nothing", x.event(47, APART, 1, MIN, 15), 2);
        is("5 a source of its own number", x.event(0, SOURCE, 1, 1, 0), 3);
        for (int i = 4; i < 60; i++) is("5 next", x.event(i % 48, BREAK, 0, 0, 10), i);
        is("5 no 61st", x.event(0, BREAK, 0, 0, -1), -6);
        is("5 no thing goes ahead of room", x.event(0, BREAK, 2, 0, -1), -1);
        is("5 count", x.count(1), 60);
        is("5 refusals", x.count(16), 9);
        KitchenTouch y = kitchen(VESSEL, FOOD);
        for (int i = 0; i < 59; i++) y.event(47, WET, 1, 0, -1);
        is("5 the 60th", y.event(47, SOURCE, 0, 3, 5), 59);
        is("5 the 60th is done", y.state(32, 0, 47), 3);
    }

    /** What the kinds of events do. */
    private static void events() {
        KitchenTouch x = with(kitchen(VESSEL, PERSON, VESSEL), 0, SOURCE, 0, 1, -1, 1, TOUCH, 0, 1, -1, 2, TOUCH, 1, 2, -1);
        states("touch weakens and ends", x, 0, 2, 1, 2, 0);
        x = with(kitchen(VESSEL, PERSON), 0, SOURCE, 0, 1, -1, 1, TOUCH, 1, 0, -1);
        states("touch goes both ways", x, 0, 1, 1, 2);
        x = with(kitchen(VESSEL, LIQUID), 0, SOURCE, 0, 1, -1, 0, SOURCE, 1, 3, -1, 1, TOUCH, 0, 1, -1);
        states("a touch gives what each had ahead", x, 0, 1, 1, 1);
        x = kitchen(PERSON, PERSON);
        x.takes(PERSON, 4, false);
        with(x, 0, SOURCE, 0, 4, -1, 0, SOURCE, 1, 1, -1, 1, TOUCH, 0, 1, -1);
        states("both had theirs", x, 0, 1, 2, 1);
        x = kitchen(PERSON, PERSON);
        x.takes(PERSON, 4, false);
        with(x, 0, SOURCE, 0, 4, -1, 1, TOUCH, 0, 1, -1);
        states("4 at most", x, 0, 1, 4, 4);
        x = kitchen(PERSON, PERSON);
        x.takes(PERSON, 3, false);
        with(x, 0, SOURCE, 0, 3, -1, 1, TOUCH, 0, 1, -1, 2, TOUCH, 0, 1, -1);
        states("3 gives 4", x, 0, 2, 3, 4);
        x = with(kitchen(VESSEL, VESSEL), 0, SOURCE, 0, 1, -1, 1, INSIDE, 0, 1, -1, 1, CARRY, 0, 1, -1);
        states("inside and carry do not give b", x, 0, 1, 1, 0);
        with(x, 2, INSIDE, 1, 0, -1);
        states("inside gives a", x, 0, 2, 1, 2);
        x = with(kitchen(VESSEL, PERSON), 0, SOURCE, 0, 1, -1, 1, CARRY, 1, 0, -1);
        states("carry gives a", x, 0, 1, 1, 2);
        x = kitchen(PERSON, PERSON, PERSON);
        x.takes(PERSON, 4, false);
        with(x, 0, SOURCE, 0, 2, -1, 1, ROOF, 0, 1, -1, 1, ROOF, 1, 0, -1);
        states("a roof gives no 2", x, 0, 1, 2, 0, 0);
        with(x, 2, SOURCE, 2, 1, -1, 3, ROOF, 2, 1, -1, 3, ROOF, 0, 2, -1);
        states("a roof gives 1 both ways", x, 0, 3, 2, 2, 1);
        x = with(kitchen(VESSEL, LIQUID), 0, SOURCE, 0, 1, -1, 1, POUR, 0, 1, -1);
        states("pour gives b", x, 0, 1, 1, 1);
        x = with(kitchen(LIQUID, LIQUID, LIQUID), 0, SOURCE, 0, 3, -1, 0, SOURCE, 1, 4, -1, 1, TOUCH, 0, 2, -1);
        states("a liquid gets 1 of 3", x, 0, 1, 3, 4, 1);
        x = with(kitchen(LIQUID, LIQUID), 0, SOURCE, 1, 4, -1, 1, TOUCH, 0, 1, -1);
        states("a liquid takes no 4", x, 0, 1, 0, 4);
        x = with(kitchen(VESSEL, FOOD, FOOD), 0, SOURCE, 0, 1, -1, 1, TOUCH, 0, 1, -1, 1, WET, 1, 0, -1, 2, TOUCH, 0, 1, -1, 2, TOUCH, 0, 2, -1);
        states("dry food", x, 0, 1, 1, 0, 0);
        states("food that became wet", x, 0, 2, 1, 2, 0);
        x = with(kitchen(VESSEL, VESSEL), 0, SOURCE, 0, 3, -1, 1, SOURCE, 0, 4, -1, 2, SOURCE, 0, 2, -1);
        is("source", x.state(0, 0, 0), 3);
        is("a weaker source", x.state(0, 0, 1), 3);
        is("a worse source", x.state(0, 0, 2), 2);
        x = with(kitchen(FOOD, GROUND), 0, SOURCE, 0, 4, -1, 0, SOURCE, 1, 2, -1);
        states("a source gives whatever is taken", x, 0, 0, 4, 2);
        x = with(kitchen(VESSEL, FOOD, GROUND, LIQUID, VESSEL, JOINED), 0, SOURCE, 0, 1, -1, 0, SOURCE, 1, 1, -1, 0, SOURCE, 2, 1, -1,
            0, SOURCE, 3, 1, -1, 0, SOURCE, 4, 1, -1, 1, BREAK, 4, 0, -1);
        for (int t = 0; t < 6; t++) with(x, 2, WASH, t, 0, -1);
        states("washing cleans vessels alone", x, 0, 2, 0, 1, 1, 1, 0, 0);
        x = with(kitchen(VESSEL, VESSEL, FOOD), 0, SOURCE, 0, 1, -1, 0, SOURCE, 2, 1, -1, 1, BREAK, 0, 0, -1, 1, BREAK, 2, 0, -1,
            2, SOURCE, 1, 1, -1, 2, TOUCH, 0, 1, -1, 3, SOURCE, 0, 1, -1);
        states("broken", x, 0, 1, 0, 0, 1);
        states("a broken one takes nothing", x, 0, 2, 0, 1, 1);
        states("a source gives a broken one", x, 0, 3, 1, 1, 1);
        with(x, 4, WASH, 0, 0, -1);
        is("a broken one is washed", x.state(0, 0, 4), 0);
        x = with(kitchen(VESSEL, PERSON), 0, SOURCE, 0, 1, -1, 1, BREAK, 0, 0, -1, 2, SOURCE, 0, 1, -1, 3, TOUCH, 0, 1, -1);
        states("a broken one gives", x, 0, 3, 1, 2);
        // Events are done by hours, of one hour in order as told.
        x = with(kitchen(VESSEL, PERSON), 5, TOUCH, 0, 1, -1, 5, SOURCE, 0, 1, -1, 9, WASH, 0, 0, -1, 3, SOURCE, 0, 3, -1);
        is("hour 3", x.state(0, 0, 3), 3);
        is("hour 4", x.state(0, 0, 4), 3);
        states("hour 5", x, 0, 5, 1, 0);
        is("hour 8", x.state(0, 0, 8), 1);
        is("hour 9", x.state(0, 0, 9), 0);
    }

    private static void joins() {
        KitchenTouch x = with(kitchen(VESSEL, JOINED), 0, SOURCE, 0, 3, -1, 1, SOURCE, 1, 2, -1);
        states("joined gets it", x, 0, 0, 3, 3);
        states("the lesser of both", x, 0, 1, 2, 2);
        with(x, 2, WASH, 0, 0, -1);
        states("washed and joined again", x, 0, 2, 2, 2);
        with(x, 3, APART, 1, 0, -1, 3, WASH, 0, 0, -1);
        states("apart", x, 0, 3, 0, 2);
        with(x, 4, SOURCE, 0, 1, -1);
        states("apart for good", x, 0, 4, 1, 2);
        // By numbers, once: 1 with 0, 2 with 1.
        x = with(kitchen(VESSEL, JOINED, JOINED), 0, SOURCE, 2, 2, -1);
        states("once", x, 0, 0, 0, 2, 2);
        with(x, 1, WET, 0, 0, -1);
        states("behind the next event", x, 0, 1, 2, 2, 2);
        x = with(kitchen(VESSEL, JOINED, JOINED), 0, SOURCE, 0, 2, -1);
        states("by numbers", x, 0, 0, 2, 2, 2);
        x = with(kitchen(LIQUID, JOINED), 0, SOURCE, 1, 3, -1);
        states("a liquid as it is", x, 0, 0, 3, 3);
        x = with(kitchen(FOOD, JOINED), 0, SOURCE, 1, 4, -1);
        states("a dry food", x, 0, 0, 4, 4);
        x = with(kitchen(VESSEL, JOINED), 0, BREAK, 0, 0, -1, 1, SOURCE, 0, 1, -1, 1, SOURCE, 1, 3, -1);
        states("a broken partner", x, 0, 1, 1, 3);
        x = with(kitchen(VESSEL, JOINED), 0, BREAK, 1, 0, -1, 1, SOURCE, 0, 1, -1);
        states("a broken joined one", x, 0, 1, 1, 0);
        x = with(kitchen(VESSEL, JOINED), 0, APART, 0, 0, -1, 1, SOURCE, 0, 1, -1);
        states("apart of another kind does nothing", x, 0, 1, 1, 1);
        x = with(kitchen(VESSEL, JOINED, VESSEL), 0, SOURCE, 0, 1, -1, 1, APART, 1, 0, -1, 2, WASH, 1, 0, -1, 3, TOUCH, 1, 0, -1);
        states("apart it stays joined in kind", x, 0, 2, 1, 0, 0);
        states("and takes as such", x, 0, 3, 1, 2, 0);
        // An event that was not joins nothing.
        x = with(kitchen(VESSEL, JOINED, JOINED, VESSEL), 0, SOURCE, 2, 2, -1, 1, WET, 3, 0, 0);
        is("not joined where it was not", x.state(0, 0, 1), 0);
        is("joined where it was", x.state(1, 0, 1), 2);
    }

    private static void sunset() {
        KitchenTouch x = with(kitchen(PERSON, VESSEL), 1, SOURCE, 0, 1, -1, 23, WASH, 0, 0, -1);
        is("unclean ahead of sunset", x.state(0, 0, 23), 1);
        is("clean from sunset on", x.state(0, 0, 24), 0);
        x = with(kitchen(PERSON, VESSEL), 1, SOURCE, 0, 1, -1, 24, WASH, 0, 0, -1);
        is("washed behind sunset", x.state(0, 0, 47), 1);
        x = with(kitchen(PERSON, VESSEL), 0, WASH, 0, 0, -1, 1, SOURCE, 0, 1, -1);
        is("a clean one is not washed", x.state(0, 0, 24), 1);
        x = with(kitchen(PERSON, VESSEL), 1, SOURCE, 0, 1, -1, 2, WASH, 0, 0, -1, 24, TOUCH, 0, 1, -1);
        states("clean ahead of hour 24", x, 0, 24, 0, 0);
        x = with(kitchen(PERSON, VESSEL), 1, SOURCE, 0, 2, -1, 2, WASH, 0, 0, -1, 3, SOURCE, 0, 2, -1);
        is("the same source anew", x.state(0, 0, 24), 2);
        x = with(kitchen(PERSON, VESSEL), 1, SOURCE, 0, 2, -1, 2, WASH, 0, 0, -1, 3, SOURCE, 0, 4, -1);
        is("a weaker source anew", x.state(0, 0, 24), 2);
        x = with(kitchen(PERSON, VESSEL), 0, SOURCE, 1, 1, -1, 1, SOURCE, 0, 1, -1, 2, WASH, 0, 0, -1, 3, TOUCH, 0, 1, -1);
        is("a weaker one that it takes", x.state(0, 0, 24), 1);
        x = with(kitchen(PERSON, VESSEL), 0, SOURCE, 1, 2, -1, 1, SOURCE, 0, 1, -1, 2, WASH, 0, 0, -1, 3, CARRY, 0, 1, -1);
        is("what it does not take", x.state(0, 0, 24), 0);
        x = with(kitchen(PERSON, VESSEL), 1, SOURCE, 0, 2, -1, 2, WASH, 0, 0, -1, 3, SOURCE, 0, 4, -1, 4, WASH, 0, 0, -1);
        is("washed again", x.state(0, 0, 24), 0);
        // The joined one: the same degree undoes nothing, a lesser one does.
        x = with(kitchen(PERSON, JOINED), 1, SOURCE, 0, 2, -1, 2, WASH, 0, 0, -1, 3, SOURCE, 1, 3, -1);
        states("joined, nothing anew", x, 0, 23, 2, 2);
        states("nothing is joined by sunset", x, 0, 24, 0, 2);
        with(x, 25, WET, 1, 0, -1);
        states("but behind the next event", x, 0, 25, 2, 2);
        x = with(kitchen(PERSON, JOINED), 1, SOURCE, 0, 2, -1, 2, WASH, 0, 0, -1, 3, SOURCE, 1, 1, -1);
        states("joined, a lesser one", x, 0, 24, 1, 1);
        // A washing that perhaps was.
        x = with(kitchen(PERSON, VESSEL), 1, SOURCE, 0, 1, -1, 2, WASH, 0, 0, 13);
        is("washed in the way without it", x.state(0, 0, 24), 0);
        is("not in the way with it", x.state(8, 0, 24), 1);
    }

    private static void promise6() {
        KitchenTouch x = with(kitchen(VESSEL, FOOD), 7, TOUCH, 0, 1, -1, 8, WET, 1, 0, 3, 9, SOURCE, 1, 4, 15);
        int[][] due = {{7, TOUCH, 0, 1, -1}, {8, WET, 1, -9, 3}, {9, SOURCE, 1, 4, 15}};
        for (int e = 0; e < 3; e++) {
            for (int what = 0; what < 5; what++) is("6 of " + e, x.of(e, what), due[e][what]);
        }
        is("6 no such event", x.of(3, 5), -1);
        is("6 below", x.of(-1, 0), -1);
        is("6 what", x.of(0, 5), -2);
        is("6 what below", x.of(2, -1), -2);
        for (int kind = WASH; kind <= WET; kind++) {
            KitchenTouch y = with(kitchen(VESSEL, FOOD), 0, kind, 0, 1, -1);
            is("6 no b", y.of(0, 3), -9);
        }
    }

    private static void promise7() {
        KitchenTouch x = with(kitchen(VESSEL, FOOD), 7, SOURCE, 0, 1, 2, 3, SOURCE, 0, 3, 4);
        is("7 ways", x.ways(0), 4);
        is("7 the latest told", x.takeBack(), 1);
        is("7 the first stays", x.of(0, 0), 7);
        is("7 gone", x.of(1, 0), -1);
        is("7 its unknown is gone", x.ways(0), 2);
        is("7 its effect is gone", x.state(16, 0, 47), 0);
        is("7 the other", x.takeBack(), 0);
        is("7 none", x.takeBack(), -3);
        is("7 counted", x.count(13), 1);
        is("7 things stay", x.count(0), 2);
        is("7 a new one", x.event(1, WET, 1, 0, -1), 0);
    }

    private static void promise8() {
        KitchenTouch x = new KitchenTouch();
        is("8 none", x.feed(0, 1), -4);
        is("8 below", x.feed(MIN, 1), -4);
        is("8 above", x.feed(9, 1), -6);
        is("8 far above", x.feed(MAX, 1), -6);
        for (int i = 1; i <= 9; i++) is("8 eight each", x.feed(8, -1L), 8 * i);
        is("8 more", x.feed(5, 0), 77);
        is("8 too many", x.feed(4, 0), -6);
        is("8 up to the end", x.feed(3, 0), 80);
        is("8 full", x.feed(1, 0), -6);
        is("8 bytes", x.count(5), 80);
        is("8 the lowest is first", x.house(), -20);
        is("8 read", x.count(5), 0);
        is("8 again", x.feed(3, ';' << 16 | '0' << 8 | 't'), 3);
        is("8 a house", x.house(), 1);
        x.feed(2, 0x7777777777773074L);
        is("8 only n bytes come", x.house(), -22);
        x.feed(1, 't');
        x.feed(2, ';' << 8 | '1');
        is("8 in pieces", x.house(), 1);
    }

    private static void promise9() {
        KitchenTouch x = new KitchenTouch();
        is("9 empty", x.house(), 0);
        is("9 a house", read(x, "t0;t1w;t3p;t2wp;k14;k00;e5,0,0,1;e0,9,2,4?5;e47,5,0!0;"), 9);
        is("9 things", x.count(0), 4);
        is("9 taken", x.takes(1, 2, false), 4);
        is("9 taken 0", x.takes(0, 1, false), 0);
        is("9 not by the other", x.takes(1, 2, true), 2);
        int[][] due = {{5, 0, 0, 1, -1}, {0, 9, 2, 4, 5}, {47, 5, 0, -9, 10}};
        for (int e = 0; e < 3; e++) {
            for (int what = 0; what < 5; what++) is("9 event " + e, x.of(e, what), due[e][what]);
        }
        String[] faulty = {
            "0x", "0;", "00t0;", "0\u00ff", "0T0;", "0 t0;",
            "1t", "1t6;", "1t;", "1tw;", "1tx",
            "2t0", "2t0x;", "2t00;", "3t0wt", "3t0pw;", "3t0ww;", "3t0w", "4t0wp", "4t0wpp;", "3t0p",
            "1k", "1k6;", "1k9", "2k0", "2k05;", "2k0;", "2k0x", "3k04", "3k044;",
            "1e", "1e48,", "1e48", "1e99x", "1ex", "1e,", "2e5", "2e5x", "2e00", "2e01,", "3e123", "3e47", "1e481",
            "4e47,", "4e47,a", "3e5,", "3e5,,", "4e5,0", "4e5,00,", "4e5,9x",
            "5e5,0,", "5e5,0,4;", "5e5,0,4", "5e5,0,44", "5e5,0,12x", "5e5,0,x", "6e5,0,0", "6e5,0,0;", "6e5,0,00", "6e5,0,01,", "6e5,0,3?", "5e5,0,9?",
            "7e5,0,0,", "7e5,0,0,0;", "7e5,0,0,0", "7e5,0,0,4", "7e5,0,0,00", "7e5,0,0,x", "8e5,0,0,1", "8e5,0,0,1x;",
            "7e5,0,0,11;", "8e5,0,1,01;",
            "7e5,9,0,0;", "7e5,9,0,5;", "7e5,9,0,10;", "7e5,9,0,44;", "8e5,9,0,4", "8e5,9,0,4x", "6e5,9,0;", "6e5,9,0?1;",
            "6e5,5,0,1;", "6e5,6,0,", "6e5,7,0", "6e5,8,0x", "5e5,5,4;",
            "7e5,5,0?", "7e5,5,0?6;", "7e5,5,0!9", "7e5,5,0?x", "8e5,5,0?5", "8e5,5,0?55;", "8e5,5,0!1!", "8e5,5,0!1?1;", "7e5,5,0!;",
            "9e5,0,0,1!6;", "9e5,0,0,1?", "9e5,0,0,1!x",
        };
        for (String f : faulty) {
            int place = f.charAt(0) - '0';
            is("9 fault of " + f.substring(1), read(x, f.substring(1)), -20 - place);
        }
        is("9 a second end", read(x, "k01;;"), -24);
        is("9 behind a whole one", read(x, "k01;k6"), -25);
        is("9 far behind", read(x, "e5,0,0,1!5;x"), -31);
        is("9 a byte above 127", read(x, "t\u00b0;"), -21);
        is("9 byte 255", read(x, "\u00ff"), -20);
        is("9 nothing is counted", x.count(11) + x.count(12) + x.count(13) + x.count(14) + x.count(16), 0);

        KitchenTouch y = new KitchenTouch();
        is("9 joined to nothing", read(y, "t5x"), -21);
        is("9 joined to ground", read(y, "t4;t5;"), -24);
        is("9 what was whole came", y.count(0), 1);
        is("9 joined", read(y, "t0;t5;"), 2);
        is("9 a thing that came just now", read(y, "t1;e0,8,3;e0,8,4;"), -35);
        is("9 what was whole came, too", y.count(0), 4);
        is("9 events, too", y.count(1), 1);
        is("9 what was not did not", read(y, "k00"), -23);
        is("9 not taken", y.takes(0, 1, false), 1);

        KitchenTouch z = new KitchenTouch();
        is("9 twelve", read(z, "t0;t0;t0;t0;t0;t0;t0;t0;t0;t0;t0;t0;"), 12);
        is("9 a 13th", read(z, "k11;t"), -24);
        is("9 a 13th, whatever is behind", read(z, "tx"), -20);
        is("9 two digits", read(z, "e10,0,10,11;"), 1);
        is("9 b of two digits out of range", read(z, "e10,0,10,12;"), -29);
        is("9 b the same of two digits", read(z, "e10,0,11,11x"), -29);
        is("9 three digits", read(z, "e10,0,111,1;"), -28);
        for (int e = 1; e < 60; e++) z.event(0, WET, 0, 0, -1);
        is("9 a 61st", read(z, "ex"), -20);
        is("9 a 61st behind another", read(z, "k11;e0,8,0;"), -24);
        StringBuilder most = new StringBuilder();
        for (int i = 0; i < 20; i++) most.append("k").append(i % 6).append(i % 5).append(";");
        is("9 eighty bytes", read(z, most.toString()), 20);
    }

    private static void promise10() {
        KitchenTouch x = with(kitchen(VESSEL, FOOD), 3, SOURCE, 0, 2, 0, 4, SOURCE, 0, 1, 11);
        is("10 nobody", x.state(-1, 2, -1), -1);
        is("10 nobody below", x.state(0, -1, 0), -1);
        is("10 way below", x.state(-1, 0, 48), -4);
        is("10 hour below", x.state(64, 0, -1), -4);
        is("10 way above", x.state(64, 0, 0), -6);
        is("10 hour above", x.state(0, 0, 48), -6);
        is("10 way 0", x.state(0, 0, 47), 1);
        is("10 way 1, hour 3", x.state(1, 0, 3), 2);
        is("10 way 1, hour 4", x.state(1, 0, 4), 1);
        is("10 way 2", x.state(2, 0, 47), 0);
        is("10 way 3", x.state(3, 0, 47), 2);
        is("10 what no event names does nothing", x.state(63, 0, 47), 2);
        is("10 hour 2", x.state(3, 0, 2), 0);
    }

    private static void promise11() {
        KitchenTouch x = with(kitchen(VESSEL, PERSON), 47, SOURCE, 0, 2, 5, 0, SOURCE, 1, 1, -1);
        is("11 nobody", x.when(-1, 2), -1);
        is("11 below", x.when(-1, 0), -4);
        is("11 above", x.when(64, 0), -6);
        is("11 last hour", x.when(32, 0), 47);
        is("11 never", x.when(0, 0), -9);
        is("11 hour 0", x.when(0, 1), 0);
        with(x, 0, SOURCE, 0, 1, -1, 0, WASH, 0, 0, -1);
        is("11 clean again in the same hour", x.when(0, 0), -9);
    }

    private static void promise12() {
        KitchenTouch x = with(kitchen(VESSEL, VESSEL), 0, SOURCE, 0, 1, 0, 1, SOURCE, 1, 1, 12);
        is("12 all", x.ways(0), 4);
        is("12 left", x.ways(1), 4);
        is("12 what", x.ways(2), -2);
        is("12 what below", x.ways(-1), -2);
        x.fact(0, 5, false);
        is("12 all still", x.ways(0), 4);
        is("12 left of them", x.ways(1), 2);
        x.fact(1, 5, true);
        is("12 one left", x.ways(1), 1);
        x.fact(1, 0, false);
        is("12 none left", x.ways(1), 0);
        with(x, 0, WET, 0, 0, 15, 0, WET, 0, 0, 4, 0, WET, 0, 0, 3, 0, WET, 0, 0, 1);
        is("12 sixty-four", x.ways(0), 64);
    }

    private static void promise13() {
        KitchenTouch x = kitchen(VESSEL);
        is("13 nobody", x.fact(1, -1, true), -1);
        is("13 below", x.fact(0, -1, true), -4);
        is("13 above", x.fact(0, 48, true), -6);
        for (int i = 1; i <= 12; i++) is("13 next", x.fact(0, 47, true), i);
        is("13 no 13th", x.fact(0, 0, true), -6);
        is("13 below goes ahead of room", x.fact(0, -1, true), -4);
        is("13 count", x.count(3), 12);
        is("13 refusals", x.count(16), 2);
        is("13 left", x.ways(1), 1);
    }

    private static void promise14() {
        KitchenTouch x = kitchen(VESSEL);
        is("14 none", x.forget(), 0);
        x.fact(0, 0, false);
        x.fact(0, 1, false);
        is("14 none left", x.ways(1), 0);
        is("14 two", x.forget(), 2);
        is("14 gone", x.count(3), 0);
        is("14 left again", x.ways(1), 1);
        is("14 the first again", x.fact(0, 0, true), 1);
    }

    private static void promise15() {
        KitchenTouch x = with(kitchen(VESSEL, VESSEL, VESSEL), 0, SOURCE, 0, 1, 0, 1, SOURCE, 1, 1, -1);
        is("15 nobody", x.sure(3, -1), -1);
        is("15 below", x.sure(0, -1), -4);
        is("15 above", x.sure(0, 48), -6);
        is("15 in some", x.sure(0, 0), 1);
        is("15 in none", x.sure(1, 1), 0);
        is("15 not yet", x.sure(1, 0), 2);
        is("15 in all", x.sure(2, 47), 2);
        x.fact(0, 0, true);
        is("15 by a fact", x.sure(0, 3), 2);
        x.fact(0, 0, false);
        is("15 no way", x.sure(0, 3), -9);
        is("15 refusals first", x.sure(3, 3), -1);
    }

    private static void promise16() {
        KitchenTouch x = with(kitchen(VESSEL, VESSEL), 0, SOURCE, 0, 1, 0, 0, SOURCE, 0, 1, 1, 0, WET, 0, 0, 5);
        is("16 nobody", x.many(2, -1), -1);
        is("16 below", x.many(0, -1), -4);
        is("16 above", x.many(0, 48), -6);
        is("16 of eight ways two", x.many(0, 0), 2);
        is("16 all", x.many(1, 0), 8);
        x.fact(0, 0, false);
        is("16 none", x.many(0, 0), 0);
        is("16 of six left all", x.many(1, 0), 6);
        x.fact(1, 0, false);
        is("16 no way left", x.many(1, 0), 0);
    }

    private static void promise17() {
        KitchenTouch x = new KitchenTouch();
        x.thing(VESSEL, false, false);
        x.thing(VESSEL, false, true);
        with(x, 2, SOURCE, 0, 1, 0, 2, SOURCE, 1, 1, 0, 4, SOURCE, 0, 1, -1, 6, WASH, 0, 0, 0);
        is("17 nobody", x.judged(2, -1), -1);
        is("17 below", x.judged(0, -1), -4);
        is("17 above", x.judged(0, 48), -6);
        is("17 sure", x.judged(0, 1), 1);
        is("17 doubt in public", x.judged(0, 2), 1);
        is("17 doubt in private", x.judged(1, 2), 0);
        is("17 sure and unclean", x.judged(0, 4), 0);
        x.law(1, 0);
        x.law(2, 1);
        is("17 doubt in public 0", x.judged(0, 2), 0);
        is("17 doubt in private 1", x.judged(1, 2), 1);
        x.law(1, 2);
        is("17 just half is not more", x.judged(0, 2), 0);
        with(x, 2, WASH, 0, 0, 1);
        is("17 three of four", x.judged(0, 2), 1);
        x.takeBack();
        x.law(1, 3);
        is("17 as ahead, clean", x.judged(0, 3), 1);
        is("17 as ahead, unclean", x.judged(0, 6), 0);
        is("17 as ahead from far", x.judged(0, 47), 0);
        x.law(2, 3);
        is("17 private as ahead", x.judged(1, 30), 1);
        KitchenTouch y = with(kitchen(VESSEL), 0, SOURCE, 0, 1, 0);
        y.law(1, 3);
        is("17 clean ahead of hour 0", y.judged(0, 0), 1);
        y.fact(0, 0, true);
        y.fact(0, 0, false);
        is("17 no way left", y.judged(0, 0), -9);
    }

    private static void promise18() {
        KitchenTouch x = with(kitchen(VESSEL, VESSEL, VESSEL, VESSEL), 0, SOURCE, 1, 1, 0, 0, SOURCE, 3, 1, 10, 1, SOURCE, 2, 1, 10);
        is("18 below", x.rivals(-1), -4);
        is("18 above", x.rivals(48), -6);
        is("18 two", x.rivals(0), 2 + 8);
        is("18 the least of several", x.rivals(1), 2 + 4);
        x.fact(1, 0, true);
        is("18 one that is never clean is no rival", x.rivals(1), -9);
        x.forget();
        x.fact(1, 0, true);
        x.fact(1, 0, false);
        is("18 no way left", x.rivals(1), -9);
        // Of three sources one at least was: each pair may be clean, all three not.
        KitchenTouch y = with(kitchen(VESSEL, VESSEL, VESSEL, VESSEL), 0, SOURCE, 0, 1, 0, 0, SOURCE, 1, 1, 1, 0, SOURCE, 3, 1, 2);
        is("18 none", y.rivals(0), -9);
        for (int t = 0; t < 4; t++) {
            if (t != 2) y.event(1, TOUCH, t, 2, -1);
        }
        y.fact(2, 1, false);
        is("18 three", y.rivals(0), 1 + 2 + 8);
    }

    private static void promise19() {
        KitchenTouch x = kitchen(VESSEL, VESSEL, VESSEL);
        is("19 what", x.question(-1, 2), -2);
        is("19 below", x.question(-1, 1), -4);
        is("19 above", x.question(48, 0), -6);
        is("19 no unknown", x.question(0, 0), -9);
        is("19 no unknown, no number", x.question(0, 1), -9);
        with(x, 0, SOURCE, 0, 1, 5, 0, SOURCE, 1, 1, 3, 0, SOURCE, 2, 1, 3);
        is("19 the better one", x.question(0, 0), 3);
        is("19 leaves one", x.question(0, 1), 1);
        x.takeBack();
        is("19 the least of several", x.question(0, 0), 3);
        x.fact(1, 0, false);
        is("19 the answer without ways counts nothing", x.question(0, 0), 5);
        is("19 leaves none", x.question(0, 1), 0);
        x.fact(1, 0, true);
        is("19 no way left", x.question(0, 0), -9);
        is("19 no way left, no number", x.question(0, 1), -9);
        KitchenTouch y = with(kitchen(VESSEL, VESSEL, VESSEL), 0, SOURCE, 0, 1, 0, 0, SOURCE, 1, 1, 1, 1, WASH, 1, 0, 0, 2, SOURCE, 2, 1, 4);
        // Of 0: if it was, 1 was washed; if not, 1 is in doubt. Of 1: in both answers 0 is in doubt, in one 1 too.
        is("19 the greater of both answers", y.question(1, 1), 1);
        is("19 which", y.question(1, 0), 0);
        is("19 at another hour", y.question(2, 1), 2);
    }

    private static void promise20() {
        KitchenTouch x = with(kitchen(VESSEL, PERSON, VESSEL), 5, SOURCE, 0, 1, 0, 4, SOURCE, 2, 1, 10, 6, TOUCH, 1, 0, -1, 6, TOUCH, 1, 2, -1);
        is("20 nobody", x.sources(3, -1), -1);
        is("20 below", x.sources(0, -1), -4);
        is("20 above", x.sources(0, 48), -6);
        is("20 clean", x.sources(1, 5), 0);
        is("20 in some way each", x.sources(1, 6), 3);
        is("20 its own", x.sources(0, 6), 1);
        is("20 by order as told", x.sources(2, 6), 2);
        x.fact(0, 6, true);
        is("20 by ways left", x.sources(1, 6), 2);
        x.fact(0, 6, false);
        is("20 no way left", x.sources(1, 6), 0);
        x = with(kitchen(VESSEL, PERSON, VESSEL), 0, SOURCE, 0, 1, -1, 0, SOURCE, 2, 1, -1, 1, TOUCH, 1, 0, -1, 2, TOUCH, 1, 2, -1, 3, SOURCE, 1, 2, -1);
        is("20 as good a one stays", x.sources(1, 3), 1);
        with(x, 4, SOURCE, 1, 1, -1, 5, SOURCE, 1, 3, -1);
        is("20 a better one", x.sources(1, 4), 8);
        is("20 a weaker one", x.sources(1, 5), 8);
        x = with(kitchen(VESSEL, JOINED), 0, SOURCE, 0, 3, -1, 1, SOURCE, 1, 2, -1, 2, WASH, 0, 0, -1);
        is("20 joined", x.sources(1, 0), 1);
        is("20 joined back", x.sources(0, 1), 2);
        is("20 joined again", x.sources(0, 2), 2);
        x = kitchen(VESSEL, VESSEL);
        for (int i = 0; i < 19; i++) with(x, 0, SOURCE, 0, 3, 5);
        with(x, 1, SOURCE, 1, 2, -1, 2, SOURCE, 1, 1, -1);
        is("20 the 20th", x.sources(1, 1), 1 << 19);
        is("20 no 21st", x.sources(1, 2), 0);
        is("20 those that were not count in order", x.sources(0, 2), 1);
    }

    private static void promise21() {
        KitchenTouch x = with(kitchen(VESSEL, PERSON, FOOD, VESSEL), 0, SOURCE, 0, 1, 0, 1, SOURCE, 1, 1, -1, 1, SOURCE, 2, 1, -1);
        is("21 hour below", x.washing(-1, 16), -4);
        is("21 things below", x.washing(48, -1), -4);
        is("21 things far below", x.washing(0, MIN), -4);
        is("21 not there goes ahead of hour above", x.washing(48, 16), -1);
        is("21 far from there", x.washing(0, 1 << 30), -1);
        is("21 hour above", x.washing(48, 1), -6);
        is("21 nothing needed", x.washing(5, 8), 0);
        is("21 nothing told", x.washing(47, 0), 0);
        is("21 one", x.washing(5, 1), 1);
        is("21 two", x.washing(5, 1 + 2 + 8), 3);
        is("21 food is not washed", x.washing(5, 4), -9);
        is("21 ahead of its source", x.washing(0, 2), -9);
        is("21 just ahead of sunset", x.washing(23, 2), 2);
        is("21 behind sunset", x.washing(24, 2), -9);
        is("21 a vessel at the end", x.washing(47, 1), 1);
        x.fact(0, 1, true);
        is("21 by ways left", x.washing(5, 1), 0);
        x.fact(0, 1, false);
        is("21 no way left", x.washing(5, 0), -9);
        // The washing of one that would have made another unclean later.
        x = with(kitchen(VESSEL, VESSEL, VESSEL), 0, SOURCE, 0, 1, -1, 5, INSIDE, 1, 0, -1, 5, INSIDE, 2, 0, -1);
        is("21 the one that gives", x.washing(3, 6), 1);
        is("21 too late for that", x.washing(5, 6), 6);
        // In order of numbers, joined behind each: 0 gets it back of 1, 1 gets it of 0.
        x = with(kitchen(VESSEL, JOINED), 0, SOURCE, 0, 1, -1);
        is("21 joined", x.washing(1, 3), -9);
        x = with(kitchen(VESSEL, JOINED), 0, SOURCE, 0, 1, -1, 1, APART, 1, 0, -1);
        is("21 apart", x.washing(1, 3), 3);
        x = with(kitchen(0, 0, 0, 0, 0, 0, 0, 0, 0), 0, SOURCE, 8, 1, -1, 0, SOURCE, 7, 1, -1);
        is("21 the eighth", x.washing(0, 128), 128);
        is("21 not the ninth", x.washing(0, 256), -9);
        for (int t = 0; t < 7; t++) with(x, 0, SOURCE, t, 1, -1);
        is("21 all eight", x.washing(0, 255), 255);
        // Either would do: the least as bits.
        x = with(kitchen(FOOD, VESSEL, VESSEL), 0, SOURCE, 1, 1, 0, 0, SOURCE, 2, 1, -1, 1, BREAK, 1, 0, -1);
        x.takes(VESSEL, 4, false);
        with(x, 2, SOURCE, 1, 1, -1, 4, APART, 0, 0, -1);
        is("21 each its own", x.washing(3, 6), 6);
        x = kitchen(VESSEL, VESSEL, LIQUID);
        x.takes(VESSEL, 2, false);
        with(x, 0, SOURCE, 0, 1, -1, 2, INSIDE, 1, 0, -1, 3, INSIDE, 2, 1, -1);
        is("21 of the chain the first", x.washing(1, 4), 1);
        is("21 of the chain the second", x.washing(2, 4), 2);
    }

    private static void promise22() {
        KitchenTouch x = kitchen(VESSEL, FOOD);
        is("22 kind", x.step(5, 2, 2), -2);
        is("22 kind below", x.step(-1, 0, 1), -2);
        is("22 a", x.step(0, 2, 0), -1);
        is("22 b", x.step(0, 0, 2), -1);
        is("22 b below", x.step(0, 0, -1), -1);
        is("22 one twice", x.step(4, 1, 1), -1);
        for (int i = 1; i <= 5; i++) is("22 next", x.step(i - 1, 0, 1), i);
        is("22 no sixth", x.step(0, 0, 1), -6);
        is("22 nobody goes ahead of room", x.step(0, 0, 0), -1);
        is("22 count", x.count(4), 5);
        is("22 refusals", x.count(16), 1);
        is("22 they are not events", x.count(1), 0);
    }

    private static void promise23() {
        KitchenTouch x = kitchen(VESSEL, FOOD);
        is("23 none", x.clear(), 0);
        x.step(0, 0, 1);
        x.step(1, 0, 1);
        is("23 two", x.clear(), 2);
        is("23 gone", x.count(4), 0);
        is("23 no order", x.cooking(0), 0);
        is("23 the first again", x.step(0, 0, 1), 1);
    }

    private static void promise24() {
        KitchenTouch x = kitchen(VESSEL, VESSEL, PERSON, LIQUID);
        is("24 below", x.cooking(-1), -4);
        is("24 not there", x.cooking(16), -1);
        is("24 no steps", x.cooking(15), 0);
        // Carrying 0 (unclean) makes 2 unclean; then 2 makes 3 unclean. First 2 touches 3, then it carries 0.
        with(x, 0, SOURCE, 0, 1, -1);
        is("24 no steps, unclean all the same", x.cooking(1), 0);
        x.step(CARRY, 2, 0);
        x.step(TOUCH, 2, 3);
        is("24 the first order", x.cooking(0), 1 + 6 * 2);
        is("24 the other order", x.cooking(8), 2 + 6 * 1);
        is("24 none", x.cooking(4), -9);
        is("24 unclean already", x.cooking(1), -9);
        x.step(INSIDE, 1, 3);
        is("24 three", x.cooking(8), 2 + 6 * (1 + 6 * 3));
        is("24 three, place by place", x.cooking(2), 1 + 6 * (3 + 6 * 2));
        x.takeBack();
        is("24 nothing unclean", x.cooking(15), 1 + 6 * (2 + 6 * 3));
        with(x, 47, SOURCE, 0, 1, 1);
        is("24 in all ways", x.cooking(8), 2 + 6 * (1 + 6 * 3));
        x.fact(0, 47, true);
        is("24 in ways left", x.cooking(15), 1 + 6 * (2 + 6 * 3));
        x.fact(0, 47, false);
        is("24 no way left", x.cooking(0), -9);
        x.clear();
        is("24 no way left, no steps", x.cooking(0), -9);
        // Joined behind each step.
        KitchenTouch y = with(kitchen(VESSEL, JOINED, JOINED, VESSEL, FOOD), 0, SOURCE, 2, 2, -1);
        is("24 not joined yet", y.state(0, 0, 47), 0);
        y.step(TOUCH, 3, 4);
        is("24 joined by a step", y.cooking(1), -9);
        is("24 others stay", y.cooking(8), 1);
    }

    private static void promise25() {
        KitchenTouch x = with(kitchen(VESSEL, VESSEL, VESSEL), 0, SOURCE, 0, 1, 0, 1, TOUCH, 0, 1, -1, 2, SOURCE, 2, 1, -1);
        is("25 below", x.beside(-1), -4);
        is("25 above", x.beside(48), -6);
        is("25 the same", x.beside(5), 0);
        x.takes(VESSEL, 0, true);
        is("25 another", x.beside(1), 2);
        is("25 not yet", x.beside(0), 0);
        x.fact(1, 1, false);
        is("25 no way left by the other", x.beside(5), 7);
        x.forget();
        x.fact(1, 1, true);
        is("25 ways left by each", x.beside(1), 1);
        x.forget();
        x.fact(2, 1, false);
        is("25 no way left by both", x.beside(5), 0);
    }

    private static void promise26() {
        KitchenTouch x = with(kitchen(VESSEL, FOOD), 0, SOURCE, 0, 1, -1);
        is("26 taken", x.image(), 1);
        x.takeBack();
        is("26 taken anew", x.image(), 0);
        x.event(0, WET, 0, 0, -1);
        is("26 the new one holds", x.restore(), 0);
    }

    private static void promise27() {
        KitchenTouch x = with(kitchen(VESSEL, FOOD), 0, SOURCE, 0, 1, 3);
        is("27 none", x.restore(), -3);
        x.takes(0, 3, false);
        x.takes(0, 2, true);
        x.law(0, 1);
        x.law(1, 2);
        x.law(2, 3);
        x.fact(0, 1, false);
        x.step(1, 0, 1);
        x.feed(1, 't');
        x.image();
        x.thing(JOINED, true, true);
        with(x, 0, WASH, 0, 0, 4, 1, WASH, 0, 0, 5);
        x.takes(0, 1, false);
        x.takes(0, 1, true);
        x.law(0, 0);
        x.law(1, 0);
        x.law(2, 0);
        x.forget();
        x.clear();
        x.feed(1, '0');
        x.thing(9, false, false);
        is("27 restored", x.restore(), 1);
        int[] due = {2, 1, 1, 1, 1, 2};
        for (int what = 0; what <= 5; what++) is("27 count " + what, x.count(what), due[what]);
        is("27 refusals stay", x.count(12), 1);
        is("27 refusals stay, too", x.count(13), 1);
        is("27 the text stays", x.house(), -22);
        is("27 takes", x.takes(0, 1, false), 3);
        is("27 takes by the other", x.takes(0, 1, true), 2);
        is("27 stream", x.law(0, 0), 1);
        is("27 doubt", x.law(1, 0), 2);
        is("27 doubt in private", x.law(2, 0), 3);
        is("27 facts", x.ways(1), 1);
        is("27 state", x.state(8, 0, 1), 1);
        x.takeBack();
        is("27 it stays", x.restore(), 1);
        is("27 as it was", x.takes(0, 1, false), 3);
        // A thing that comes where another was is its own.
        KitchenTouch y = kitchen(FOOD);
        y.image();
        y.thing(FOOD, true, true);
        y.restore();
        y.thing(FOOD, false, false);
        with(y, 0, SOURCE, 0, 1, 0, 1, TOUCH, 0, 1, -1);
        is("27 dry", y.state(1, 1, 1), 0);
    }

    private static void promise28() {
        KitchenTouch x = with(kitchen(VESSEL, FOOD), 0, SOURCE, 0, 1, 3, 0, SOURCE, 0, 1, 13, 0, SOURCE, 0, 1, 10);
        is("28 things", x.count(0), 2);
        is("28 events", x.count(1), 3);
        is("28 unknowns", x.count(2), 2);
        for (int what : new int[] {-1, 6, 7, 8, 9, 10, 17, MIN, MAX}) is("28 another", x.count(what), -9);
        x.state(0, 9, 0);
        x.law(9, 0);
        x.law(9, 0);
        x.restore();
        x.law(0, -1);
        x.law(0, 9);
        x.law(0, 9);
        x.law(0, 9);
        int[] due = {1, 2, 1, 1, 0, 3};
        for (int what = 11; what <= 16; what++) is("28 refusals " + what, x.count(what), due[what - 11]);
    }

    public static void main(String[] args) {
        promise1();
        promise2();
        promise3();
        promise4();
        promise5();
        events();
        joins();
        sunset();
        promise6();
        promise7();
        promise8();
        promise9();
        promise10();
        promise11();
        promise12();
        promise13();
        promise14();
        promise15();
        promise16();
        promise17();
        promise18();
        promise19();
        promise20();
        promise21();
        promise22();
        promise23();
        promise24();
        promise25();
        promise26();
        promise27();
        promise28();
        System.out.println("PromiseTest: " + asked + " answers, " + wrong + " wrong");
        if (wrong != 0) System.exit(1);
    }
}
