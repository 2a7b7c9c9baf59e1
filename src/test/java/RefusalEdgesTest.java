/** Of each call the least and the greatest that it takes, what is refused beside them, and which refusal goes ahead. */
public final class RefusalEdgesTest {
    private static final EdgeKit k = new EdgeKit("RefusalEdgesTest");
    private static final int MIN = EdgeKit.MIN, MAX = EdgeKit.MAX;
    private static final int VESSEL = EdgeKit.VESSEL, GROUND = EdgeKit.GROUND;
    private static final int WET = EdgeKit.WET, SOURCE = EdgeKit.SOURCE;

    private static final EdgeKit.Call THING = (x, a) -> x.thing(a[0], a[1] == 1, a[2] == 1);
    private static final EdgeKit.Call TAKES = (x, a) -> x.takes(a[0], a[1], a[2] == 1);
    private static final EdgeKit.Call LAW = (x, a) -> x.law(a[0], a[1]);
    private static final EdgeKit.Call EVENT = (x, a) -> x.event(a[0], a[1], a[2], a[3], a[4]);
    private static final EdgeKit.Call OF = (x, a) -> x.of(a[0], a[1]);
    private static final EdgeKit.Call TAKE_BACK = (x, a) -> x.takeBack();
    private static final EdgeKit.Call FEED = (x, a) -> x.feed(a[0], 0x3B30743B30743B30L);
    private static final EdgeKit.Call STATE = (x, a) -> x.state(a[0], a[1], a[2]);
    private static final EdgeKit.Call WHEN = (x, a) -> x.when(a[0], a[1]);
    private static final EdgeKit.Call WAYS = (x, a) -> x.ways(a[0]);
    private static final EdgeKit.Call FACT = (x, a) -> x.fact(a[0], a[1], a[2] == 1);
    private static final EdgeKit.Call SURE = (x, a) -> x.sure(a[0], a[1]);
    private static final EdgeKit.Call MANY = (x, a) -> x.many(a[0], a[1]);
    private static final EdgeKit.Call JUDGED = (x, a) -> x.judged(a[0], a[1]);
    private static final EdgeKit.Call RIVALS = (x, a) -> x.rivals(a[0]);
    private static final EdgeKit.Call QUESTION = (x, a) -> x.question(a[0], a[1]);
    private static final EdgeKit.Call SOURCES = (x, a) -> x.sources(a[0], a[1]);
    private static final EdgeKit.Call WASHING = (x, a) -> x.washing(a[0], a[1]);
    private static final EdgeKit.Call STEP = (x, a) -> x.step(a[0], a[1], a[2]);
    private static final EdgeKit.Call COOKING = (x, a) -> x.cooking(a[0]);
    private static final EdgeKit.Call BESIDE = (x, a) -> x.beside(a[0]);
    private static final EdgeKit.Call RESTORE = (x, a) -> x.restore();

    // ---- settings: the last that has room, and the first that has none

    private static KitchenTouch things(int number, int last) {
        KitchenTouch x = EdgeKit.rich();
        while (x.count(0) < number - 1) x.thing(x.count(0) % 4, true, false);
        x.thing(last, false, false);
        return x;
    }

    private static KitchenTouch eventsTold(int number) {
        KitchenTouch x = EdgeKit.rich();
        int had = x.count(1);
        for (int e = had; e < number; e++) EdgeKit.with(x, e % 48, WET, 0, 0, -1);
        return x;
    }

    private static KitchenTouch bytes(int number) {
        KitchenTouch x = EdgeKit.rich();
        int had = x.count(5);
        for (int i = had; i < number; i++) x.feed(1, 'k');
        return x;
    }

    private static KitchenTouch facts(int number) {
        KitchenTouch x = EdgeKit.rich();
        while (x.count(3) < number) x.fact(0, 0, true);
        return x;
    }

    private static KitchenTouch steps(int number) {
        KitchenTouch x = EdgeKit.rich();
        while (x.count(4) < number) x.step(EdgeKit.INSIDE, 0, 2);
        return x;
    }

    // ---- promises 2 to 9

    private static void things() {
        k.sentence("Promise 2: -2, of KINDS 0 .. 5");
        k.answered(() -> things(7, VESSEL), "thing", THING,
            new int[] {7, 0, 0, 0}, new int[] {7, 1, 0, 1}, new int[] {7, 4, 1, 0}, new int[] {7, 5, 1, 1});
        k.refused(EdgeKit::rich, "thing", THING, new int[] {-2, -1, 0, 0}, new int[] {-2, 6, 1, 1},
            new int[] {-2, MIN, 0, 1}, new int[] {-2, MAX, 1, 0});
        k.sentence("Promise 2: -3 JOINED to nothing, to GROUND");
        k.refused(KitchenTouch::new, "thing", THING, new int[] {-3, 5, 0, 0}, new int[] {-3, 5, 1, 1});
        k.refused(EdgeKit::rich, "thing", THING, new int[] {-3, 5, 0, 0}, new int[] {-3, 5, 1, 1});
        k.answered(() -> EdgeKit.kitchen(GROUND, VESSEL), "thing", THING, new int[] {2, 5, 0, 0});
        k.sentence("Promise 2: -6, THINGS 0 .. 11");
        k.answered(() -> things(10, VESSEL), "thing", THING, new int[] {10, 0, 0, 0});
        k.answered(() -> things(11, VESSEL), "thing", THING, new int[] {11, 0, 0, 0}, new int[] {11, 5, 1, 1});
        k.refused(() -> things(12, VESSEL), "thing", THING,
            new int[] {-6, 0, 0, 0}, new int[] {-6, 4, 1, 1}, new int[] {-6, 5, 0, 0});
        k.sentence("REFUSALS of thing: the first that fits");
        k.refused(() -> things(12, GROUND), "thing", THING,
            new int[] {-2, 6, 0, 0}, new int[] {-2, -1, 0, 0}, new int[] {-3, 5, 0, 0}, new int[] {-6, 4, 0, 0});
    }

    private static void laws() {
        k.sentence("Promise 3: -2, of KINDS 0 .. 5");
        k.answered(KitchenTouch::new, "takes", TAKES, new int[] {1, 0, 0, 0}, new int[] {1, 0, 4, 1},
            new int[] {1, 5, 4, 0}, new int[] {1, 5, 0, 1});
        k.refused(EdgeKit::rich, "takes", TAKES, new int[] {-2, -1, 1, 0}, new int[] {-2, 6, 1, 1},
            new int[] {-2, MIN, 0, 0}, new int[] {-2, MAX, 4, 1});
        k.sentence("Promise 3: -4 below 0, -6 above 4");
        for (int kind = 0; kind < 6; kind++) {
            k.refused(EdgeKit::rich, "takes", TAKES, new int[] {-4, kind, -1, kind & 1}, new int[] {-4, kind, MIN, 0},
                new int[] {-6, kind, 5, 1 - (kind & 1)}, new int[] {-6, kind, MAX, 1});
            for (int other = 0; other < 2; other++) {
                KitchenTouch x = new KitchenTouch();
                int[] first = {1, 2, 3, 1, 0, 1};
                int was = first[kind];
                for (int v : new int[] {0, 1, 3, 4, 0}) {
                    k.is("what it was, kind " + kind, x.takes(kind, v, other == 1), was);
                    was = v;
                }
                for (int of = 0; of < 6; of++) {
                    k.is("of the law at its side", x.takes(of, 0, other == 0), first[of]);
                    if (of != kind) k.is("of another kind", x.takes(of, 0, other == 1), first[of]);
                }
            }
        }
        k.sentence("REFUSALS of takes: the first that fits");
        k.refused(EdgeKit::rich, "takes", TAKES, new int[] {-2, 6, -1, 0}, new int[] {-2, -1, 5, 1});
        k.sentence("Promise 4: -2, what 0 .. 2");
        k.answered(KitchenTouch::new, "law", LAW, new int[] {0, 0, 1}, new int[] {1, 1, 3}, new int[] {0, 2, 3});
        k.refused(EdgeKit::rich, "law", LAW, new int[] {-2, -1, 0}, new int[] {-2, 3, 1}, new int[] {-2, MIN, 0},
            new int[] {-2, MAX, 0});
        k.sentence("Promise 4: -4, -6, STREAM 0 or 1");
        k.answered(EdgeKit::rich, "law", LAW, new int[] {1, 0, 0}, new int[] {1, 0, 1});
        k.refused(EdgeKit::rich, "law", LAW, new int[] {-4, 0, -1}, new int[] {-4, 0, MIN}, new int[] {-6, 0, 2},
            new int[] {-6, 0, 3}, new int[] {-6, 0, MAX});
        k.sentence("Promise 4: -4, -6, DOUBT 0 .. 3 in public and in private");
        k.answered(EdgeKit::rich, "law", LAW, new int[] {3, 1, 0}, new int[] {3, 1, 3}, new int[] {2, 2, 0}, new int[] {2, 2, 3});
        k.refused(EdgeKit::rich, "law", LAW, new int[] {-4, 1, -1}, new int[] {-4, 2, -1}, new int[] {-4, 1, MIN},
            new int[] {-6, 1, 4}, new int[] {-6, 2, 4}, new int[] {-6, 2, MAX});
        k.sentence("REFUSALS of law: the first that fits");
        k.refused(EdgeKit::rich, "law", LAW, new int[] {-2, 3, -1}, new int[] {-2, -1, 4});
    }

    private static void events() {
        k.sentence("Promise 5: -2 KIND 0 .. 9");
        k.answered(EdgeKit::rich, "event", EVENT, new int[] {6, 0, 0, 0, 1, -1}, new int[] {6, 0, 9, 0, 1, -1});
        k.refused(EdgeKit::rich, "event", EVENT, new int[] {-2, 0, -1, 0, 1, -1}, new int[] {-2, 0, 10, 0, 1, -1},
            new int[] {-2, 0, MIN, 0, 1, -1}, new int[] {-2, 0, MAX, 0, 1, -1});
        k.sentence("Promise 5: -1 a");
        for (int kind = 0; kind < 10; kind++) {
            int b = kind == SOURCE ? 4 : 1;
            k.answered(EdgeKit::rich, "event", EVENT, new int[] {6, 9, kind, 0, b, -1}, new int[] {6, 9, kind, 5, b, -1});
            k.refused(EdgeKit::rich, "event", EVENT, new int[] {-1, 9, kind, -1, b, -1}, new int[] {-1, 9, kind, 6, b, -1});
        }
        k.refused(EdgeKit::rich, "event", EVENT, new int[] {-1, 9, 0, MIN, 0, -1}, new int[] {-1, 9, 5, MAX, 0, -1});
        k.refused(KitchenTouch::new, "event", EVENT, new int[] {-1, 0, 9, 0, 1, -1});
        k.sentence("Promise 5: -1 (KINDS 0 .. 4) b");
        for (int kind = 0; kind <= 4; kind++) {
            k.answered(EdgeKit::rich, "event", EVENT, new int[] {6, 9, kind, 1, 0, 5}, new int[] {6, 9, kind, 1, 5, 15});
            k.refused(EdgeKit::rich, "event", EVENT, new int[] {-1, 9, kind, 1, -1, -1}, new int[] {-1, 9, kind, 1, 6, -1});
        }
        k.refused(EdgeKit::rich, "event", EVENT, new int[] {-1, 9, 4, 0, MIN, -1}, new int[] {-1, 9, 4, 0, MAX, -1});
        k.sentence("Promise 5: -1 one twice");
        for (int kind = 0; kind <= 4; kind++) {
            k.refused(EdgeKit::rich, "event", EVENT, new int[] {-1, 9, kind, 0, 0, -1}, new int[] {-1, 9, kind, 5, 5, -1});
        }
        k.answered(EdgeKit::rich, "event", EVENT, new int[] {6, 9, SOURCE, 4, 4, -1}, new int[] {6, 9, WET, 4, 4, -1});
        k.sentence("Promise 5: b of KINDS 5 .. 8 counts nothing");
        for (int kind = 5; kind <= 8; kind++) {
            k.answered(EdgeKit::rich, "event", EVENT, new int[] {6, 9, kind, 4, MIN, -1}, new int[] {6, 9, kind, 4, -1, -1},
                new int[] {6, 9, kind, 4, 0, -1}, new int[] {6, 9, kind, 4, 5, -1}, new int[] {6, 9, kind, 4, 6, -1},
                new int[] {6, 9, kind, 4, MAX, -1});
        }
    }

    private static void eventNumbers() {
        k.sentence("Promise 5: -4, -6 HOUR 0 .. 47");
        k.answered(EdgeKit::rich, "event", EVENT, new int[] {6, 0, 5, 0, 0, -1}, new int[] {6, 1, 5, 0, 0, -1},
            new int[] {6, 46, 5, 0, 0, -1}, new int[] {6, 47, 5, 0, 0, -1});
        k.refused(EdgeKit::rich, "event", EVENT, new int[] {-4, -1, 5, 0, 0, -1}, new int[] {-4, MIN, 5, 0, 0, -1},
            new int[] {-6, 48, 5, 0, 0, -1}, new int[] {-6, MAX, 5, 0, 0, -1});
        k.sentence("Promise 5: -4, -6 KIND 9: b 1 .. 4");
        k.answered(EdgeKit::rich, "event", EVENT, new int[] {6, 0, SOURCE, 0, 1, -1}, new int[] {6, 0, SOURCE, 0, 2, -1},
            new int[] {6, 0, SOURCE, 0, 3, -1}, new int[] {6, 0, SOURCE, 0, 4, -1});
        k.refused(EdgeKit::rich, "event", EVENT, new int[] {-4, 0, SOURCE, 0, 0, -1}, new int[] {-4, 0, SOURCE, 0, MIN, -1},
            new int[] {-6, 0, SOURCE, 0, 5, -1}, new int[] {-6, 0, SOURCE, 0, MAX, -1});
        k.sentence("Promise 5: -4, -6 unknown -1 .. 5, 10 .. 15, 6 .. 9 are above");
        for (int kind : new int[] {0, 5, 9}) {
            k.answered(EdgeKit::rich, "event", EVENT, new int[] {6, 0, kind, 0, 1, -1}, new int[] {6, 0, kind, 0, 1, 0},
                new int[] {6, 0, kind, 0, 1, 4}, new int[] {6, 0, kind, 0, 1, 5}, new int[] {6, 0, kind, 0, 1, 10},
                new int[] {6, 0, kind, 0, 1, 11}, new int[] {6, 0, kind, 0, 1, 14}, new int[] {6, 0, kind, 0, 1, 15});
            k.refused(EdgeKit::rich, "event", EVENT, new int[] {-4, 0, kind, 0, 1, -2}, new int[] {-4, 0, kind, 0, 1, MIN},
                new int[] {-6, 0, kind, 0, 1, 6}, new int[] {-6, 0, kind, 0, 1, 7}, new int[] {-6, 0, kind, 0, 1, 8},
                new int[] {-6, 0, kind, 0, 1, 9}, new int[] {-6, 0, kind, 0, 1, 16}, new int[] {-6, 0, kind, 0, 1, MAX});
        }
        k.sentence("Promise 5: -6 60");
        k.answered(() -> eventsTold(58), "event", EVENT, new int[] {58, 0, 9, 0, 1, 4});
        k.answered(() -> eventsTold(59), "event", EVENT, new int[] {59, 0, 9, 0, 1, 4}, new int[] {59, 47, 0, 0, 1, 15});
        k.refused(() -> eventsTold(60), "event", EVENT, new int[] {-6, 0, 9, 0, 1, 4}, new int[] {-6, 47, 0, 0, 1, 15});
        k.sentence("REFUSALS of event: the first that fits");
        k.refused(() -> eventsTold(60), "event", EVENT, new int[] {-2, -1, 10, 6, 6, -2}, new int[] {-1, -1, 9, 6, 0, -2},
            new int[] {-1, -1, 0, 0, 6, -2}, new int[] {-1, 48, 0, 0, 0, 16}, new int[] {-4, -1, 9, 0, 5, 16},
            new int[] {-4, 48, 9, 0, 0, 16}, new int[] {-4, 48, 9, 0, 5, -2}, new int[] {-6, 48, 9, 0, 5, 16});
    }

    private static void told() {
        k.sentence("Promise 6: -1 no such EVENT");
        k.asked(EdgeKit::rich, "of", OF, new int[] {1, 0, 0}, new int[] {25, 4, 0}, new int[] {47, 5, 0});
        k.refused(EdgeKit::rich, "of", OF, new int[] {-1, -1, 0}, new int[] {-1, 6, 0}, new int[] {-1, MIN, 0}, new int[] {-1, MAX, 0});
        k.refused(KitchenTouch::new, "of", OF, new int[] {-1, 0, 0});
        k.answered(() -> eventsTold(60), "of", OF, new int[] {58 % 48, 58, 0}, new int[] {59 % 48, 59, 0});
        k.refused(() -> eventsTold(60), "of", OF, new int[] {-1, 60, 0});
        k.sentence("Promise 6: -2 what 0 .. 4");
        k.asked(EdgeKit::rich, "of", OF, new int[] {9, 0, 1}, new int[] {0, 0, 2}, new int[] {1, 0, 3}, new int[] {0, 0, 4});
        k.refused(EdgeKit::rich, "of", OF, new int[] {-2, 0, -1}, new int[] {-2, 5, 5}, new int[] {-2, 0, MIN}, new int[] {-2, 0, MAX});
        k.sentence("REFUSALS of of: the first that fits");
        k.refused(EdgeKit::rich, "of", OF, new int[] {-1, 6, 5}, new int[] {-1, -1, -1});
        k.sentence("Promise 7: -3 there is none");
        k.answered(EdgeKit::rich, "takeBack", TAKE_BACK, new int[] {5});
        k.answered(() -> EdgeKit.with(EdgeKit.kitchen(VESSEL), 0, WET, 0, 0, -1), "takeBack", TAKE_BACK, new int[] {0});
        k.refused(KitchenTouch::new, "takeBack", TAKE_BACK, new int[] {-3});
        k.refused(() -> allTakenBack(), "takeBack", TAKE_BACK, new int[] {-3});
    }

    private static KitchenTouch allTakenBack() {
        KitchenTouch x = EdgeKit.rich();
        for (int i = 0; i < 6; i++) x.takeBack();
        return x;
    }

    private static void texts() {
        k.sentence("Promise 8: -4, -6, n 1 .. 8");
        k.answered(EdgeKit::rich, "feed", FEED, new int[] {3, 1}, new int[] {4, 2}, new int[] {9, 7}, new int[] {10, 8});
        k.refused(EdgeKit::rich, "feed", FEED, new int[] {-4, 0}, new int[] {-4, -1}, new int[] {-4, MIN}, new int[] {-6, 9},
            new int[] {-6, MAX});
        k.sentence("Promise 8: -6 above 80, too");
        for (int n = 1; n <= 8; n++) {
            int room = 80 - n;
            k.answered(() -> bytes(room - 1), "feed", FEED, new int[] {79, n});
            k.answered(() -> bytes(room), "feed", FEED, new int[] {80, n});
            k.refused(() -> bytes(room + 1), "feed", FEED, new int[] {-6, n});
        }
        k.refused(() -> bytes(80), "feed", FEED, new int[] {-6, 1}, new int[] {-4, 0}, new int[] {-6, 9}, new int[] {-6, MAX});
    }

    // ---- promises 10 to 20

    private static void states() {
        k.sentence("Promise 10: -1 no such THING");
        k.asked(EdgeKit::rich, "state", STATE, new int[] {1, 1, 0, 1}, new int[] {0, 1, 5, 47});
        k.refused(EdgeKit::rich, "state", STATE, new int[] {-1, 0, -1, 0}, new int[] {-1, 0, 6, 0}, new int[] {-1, 0, MIN, 0},
            new int[] {-1, 0, MAX, 0});
        k.refused(KitchenTouch::new, "state", STATE, new int[] {-1, 0, 0, 0});
        k.sentence("Promise 10: -4, -6 (WAY 0 .. 63)");
        k.asked(EdgeKit::rich, "state", STATE, new int[] {0, 0, 0, 1}, new int[] {0, 62, 0, 1}, new int[] {1, 63, 0, 1});
        k.refused(EdgeKit::rich, "state", STATE, new int[] {-4, -1, 0, 1}, new int[] {-4, MIN, 0, 1}, new int[] {-6, 64, 0, 1},
            new int[] {-6, MAX, 0, 1});
        k.sentence("Promise 10: -4, -6, HOUR 0 .. 47");
        k.asked(EdgeKit::rich, "state", STATE, new int[] {0, 1, 0, 0}, new int[] {0, 4, 3, 46}, new int[] {2, 4, 3, 47});
        k.refused(EdgeKit::rich, "state", STATE, new int[] {-4, 0, 0, -1}, new int[] {-4, 0, 0, MIN}, new int[] {-6, 0, 0, 48},
            new int[] {-6, 0, 0, MAX});
        k.sentence("REFUSALS of state: the first that fits");
        k.refused(EdgeKit::rich, "state", STATE, new int[] {-1, -1, 6, -1}, new int[] {-1, 64, -1, 48}, new int[] {-4, -1, 0, 48},
            new int[] {-4, 64, 0, -1}, new int[] {-6, 64, 0, 48});
        k.sentence("Promise 11: -1, -4, -6");
        k.asked(EdgeKit::rich, "when", WHEN, new int[] {-9, 0, 0}, new int[] {1, 1, 0}, new int[] {-9, 62, 0}, new int[] {1, 63, 0},
            new int[] {-9, 63, 5});
        k.refused(EdgeKit::rich, "when", WHEN, new int[] {-1, 0, -1}, new int[] {-1, 0, 6}, new int[] {-1, 0, MIN},
            new int[] {-1, 0, MAX}, new int[] {-4, -1, 0}, new int[] {-4, MIN, 0}, new int[] {-6, 64, 0}, new int[] {-6, MAX, 0});
        k.refused(KitchenTouch::new, "when", WHEN, new int[] {-1, 0, 0});
        k.sentence("REFUSALS of when: the first that fits");
        k.refused(EdgeKit::rich, "when", WHEN, new int[] {-1, -1, 6}, new int[] {-1, 64, -1});
        k.sentence("Promise 12: -2, what 0, 1");
        k.asked(EdgeKit::rich, "ways", WAYS, new int[] {16, 0}, new int[] {12, 1});
        k.refused(EdgeKit::rich, "ways", WAYS, new int[] {-2, -1}, new int[] {-2, 2}, new int[] {-2, MIN}, new int[] {-2, MAX});
    }

    private static void facts() {
        k.sentence("Promise 13: -1, -4, -6 HOUR");
        k.answered(EdgeKit::rich, "fact", FACT, new int[] {3, 0, 0, 1}, new int[] {3, 5, 47, 0});
        k.refused(EdgeKit::rich, "fact", FACT, new int[] {-1, -1, 0, 1}, new int[] {-1, 6, 0, 0}, new int[] {-1, MIN, 0, 1},
            new int[] {-1, MAX, 0, 0}, new int[] {-4, 0, -1, 1}, new int[] {-4, 0, MIN, 0}, new int[] {-6, 0, 48, 1},
            new int[] {-6, 0, MAX, 0});
        k.refused(KitchenTouch::new, "fact", FACT, new int[] {-1, 0, 0, 1});
        k.sentence("Promise 13: -6 12");
        k.answered(() -> facts(10), "fact", FACT, new int[] {11, 0, 1, 1});
        k.answered(() -> facts(11), "fact", FACT, new int[] {12, 0, 1, 1}, new int[] {12, 5, 47, 0});
        k.refused(() -> facts(12), "fact", FACT, new int[] {-6, 0, 1, 1}, new int[] {-6, 5, 47, 0});
        k.sentence("REFUSALS of fact: the first that fits");
        k.refused(() -> facts(12), "fact", FACT, new int[] {-1, 6, -1, 1}, new int[] {-1, -1, 48, 1}, new int[] {-4, 0, -1, 1},
            new int[] {-6, 0, 48, 1});
    }

    /** Calls that are told a THING and an HOUR; of 0 at HOURS 0 and 47, of the last at 0 and 47. */
    private static void ofThingAndHour(String name, EdgeKit.Call call, int... due) {
        k.asked(EdgeKit::rich, name, call, new int[] {due[0], 0, 0}, new int[] {due[1], 0, 47}, new int[] {due[2], 5, 0},
            new int[] {due[3], 5, 47});
        k.refused(EdgeKit::rich, name, call, new int[] {-1, -1, 0}, new int[] {-1, 6, 0}, new int[] {-1, MIN, 0},
            new int[] {-1, MAX, 0}, new int[] {-4, 0, -1}, new int[] {-4, 0, MIN}, new int[] {-6, 0, 48}, new int[] {-6, 0, MAX});
        k.refused(EdgeKit::rich, name, call, new int[] {-1, 6, -1}, new int[] {-1, -1, 48});
        k.refused(KitchenTouch::new, name, call, new int[] {-1, 0, 0}, new int[] {-1, 0, -1}, new int[] {-1, 0, 48});
    }

    private static void doubts() {
        k.sentence("Promise 15: -1; -4; -6");
        ofThingAndHour("sure", SURE, 2, 1, 2, 2);
        k.sentence("Promise 16: -1; -4; -6");
        ofThingAndHour("many", MANY, 12, 8, 12, 12);
        k.sentence("Promise 17: -1; -4; -6");
        ofThingAndHour("judged", JUDGED, 1, 1, 1, 1);
        k.sentence("Promise 20: -1; -4; -6");
        ofThingAndHour("sources", SOURCES, 0, 1, 0, 0);
        k.sentence("Promise 18: -4; -6");
        k.asked(EdgeKit::rich, "rivals", RIVALS, new int[] {-9, 0}, new int[] {-9, 1}, new int[] {-9, 46}, new int[] {-9, 47});
        k.refused(EdgeKit::rich, "rivals", RIVALS, new int[] {-4, -1}, new int[] {-4, MIN}, new int[] {-6, 48}, new int[] {-6, MAX});
        k.sentence("Promise 19: -2 what 0, 1; -4; -6");
        k.asked(EdgeKit::rich, "question", QUESTION, new int[] {0, 0, 0}, new int[] {0, 0, 1}, new int[] {0, 47, 0}, new int[] {2, 47, 1});
        k.refused(EdgeKit::rich, "question", QUESTION, new int[] {-2, 0, -1}, new int[] {-2, 0, 2}, new int[] {-2, 0, MIN},
            new int[] {-2, 0, MAX}, new int[] {-4, -1, 0}, new int[] {-4, MIN, 1}, new int[] {-6, 48, 0}, new int[] {-6, MAX, 1});
        k.sentence("REFUSALS of question: the first that fits");
        k.refused(EdgeKit::rich, "question", QUESTION, new int[] {-2, -1, 2}, new int[] {-2, 48, -1});
        k.refused(KitchenTouch::new, "question", QUESTION, new int[] {-2, 0, 2}, new int[] {-4, -1, 0}, new int[] {-6, 48, 1});
    }

    // ---- promises 21 to 28

    private static void washings() {
        k.sentence("Promise 21: -4 (THINGS below 0, too)");
        k.asked(EdgeKit::rich, "washing", WASHING, new int[] {0, 0, 0}, new int[] {0, 0, 32}, new int[] {0, 47, 48}, new int[] {-9, 47, 1});
        k.refused(EdgeKit::rich, "washing", WASHING, new int[] {-4, -1, 0}, new int[] {-4, MIN, 1}, new int[] {-4, 0, -1},
            new int[] {-4, 0, MIN});
        k.sentence("Promise 21: -1 bits of THINGS that are not there");
        k.refused(EdgeKit::rich, "washing", WASHING, new int[] {-1, 0, 64}, new int[] {-1, 0, 65}, new int[] {-1, 0, 1 << 12},
            new int[] {-1, 0, 1 << 30}, new int[] {-1, 0, MAX});
        k.answered(() -> things(12, VESSEL), "washing", WASHING, new int[] {0, 0, 1 << 11}, new int[] {0, 47, 1 << 11 | 1 << 5});
        k.refused(() -> things(12, VESSEL), "washing", WASHING, new int[] {-1, 0, 1 << 12}, new int[] {-1, 0, 4097});
        k.answered(KitchenTouch::new, "washing", WASHING, new int[] {0, 0, 0}, new int[] {0, 47, 0});
        k.refused(KitchenTouch::new, "washing", WASHING, new int[] {-1, 0, 1});
        k.sentence("Promise 21: -6 HOUR");
        k.refused(EdgeKit::rich, "washing", WASHING, new int[] {-6, 48, 0}, new int[] {-6, 48, 32}, new int[] {-6, MAX, 1});
        k.sentence("REFUSALS of washing: the first that fits");
        k.refused(EdgeKit::rich, "washing", WASHING, new int[] {-4, -1, 64}, new int[] {-4, 48, -1}, new int[] {-1, 48, 64},
            new int[] {-4, -1, -1});
    }

    private static void cooking() {
        k.sentence("Promise 22: -2 KINDS 0 .. 4");
        k.answered(EdgeKit::rich, "step", STEP, new int[] {3, 0, 0, 5}, new int[] {3, 1, 5, 0}, new int[] {3, 3, 1, 4},
            new int[] {3, 4, 4, 1});
        k.refused(EdgeKit::rich, "step", STEP, new int[] {-2, -1, 0, 1}, new int[] {-2, 5, 0, 1}, new int[] {-2, 9, 0, 1},
            new int[] {-2, MIN, 0, 1}, new int[] {-2, MAX, 0, 1});
        k.sentence("Promise 22: -1 (one twice, too)");
        k.refused(EdgeKit::rich, "step", STEP, new int[] {-1, 0, -1, 1}, new int[] {-1, 0, 6, 1}, new int[] {-1, 0, MIN, 1},
            new int[] {-1, 0, MAX, 1}, new int[] {-1, 4, 0, -1}, new int[] {-1, 4, 0, 6}, new int[] {-1, 4, 0, MIN},
            new int[] {-1, 4, 0, MAX}, new int[] {-1, 0, 0, 0}, new int[] {-1, 4, 5, 5}, new int[] {-1, 1, 6, 6});
        k.refused(KitchenTouch::new, "step", STEP, new int[] {-1, 0, 0, 1});
        k.sentence("Promise 22: -6 5");
        k.answered(() -> steps(3), "step", STEP, new int[] {4, 0, 0, 1});
        k.answered(() -> steps(4), "step", STEP, new int[] {5, 0, 0, 1}, new int[] {5, 4, 5, 0});
        k.refused(() -> steps(5), "step", STEP, new int[] {-6, 0, 0, 1}, new int[] {-6, 4, 5, 0});
        k.sentence("REFUSALS of step: the first that fits");
        k.refused(() -> steps(5), "step", STEP, new int[] {-2, 5, 6, 6}, new int[] {-1, 0, 6, 0}, new int[] {-1, 0, 0, 0});
        k.sentence("Promises 14, 23: how many there were");
        for (int number = 2; number <= 12; number++) {
            int had = number;
            k.answered(() -> facts(had), "forget", (x, a) -> x.forget(), new int[] {had});
            if (had <= 5) k.answered(() -> steps(had), "clear", (x, a) -> x.clear(), new int[] {had});
        }
        k.asked(KitchenTouch::new, "forget", (x, a) -> x.forget(), new int[] {0});
        k.asked(KitchenTouch::new, "clear", (x, a) -> x.clear(), new int[] {0});
        k.sentence("Promise 24: -4; -1");
        k.asked(EdgeKit::rich, "cooking", COOKING, new int[] {13, 0}, new int[] {13, 32});
        k.refused(EdgeKit::rich, "cooking", COOKING, new int[] {-4, -1}, new int[] {-4, MIN}, new int[] {-1, 64}, new int[] {-1, 65},
            new int[] {-1, 1 << 12}, new int[] {-1, MAX});
        k.answered(() -> things(12, VESSEL), "cooking", COOKING, new int[] {13, 1 << 11});
        k.refused(() -> things(12, VESSEL), "cooking", COOKING, new int[] {-1, 1 << 12}, new int[] {-1, 1 << 30});
        k.refused(KitchenTouch::new, "cooking", COOKING, new int[] {-1, 1}, new int[] {-4, -1});
        k.sentence("Promise 25: -4; -6");
        k.asked(EdgeKit::rich, "beside", BESIDE, new int[] {0, 0}, new int[] {0, 23}, new int[] {4, 24}, new int[] {4, 47});
        k.refused(EdgeKit::rich, "beside", BESIDE, new int[] {-4, -1}, new int[] {-4, MIN}, new int[] {-6, 48}, new int[] {-6, MAX});
    }

    private static void images() {
        k.sentence("Promise 27: -3 there is none");
        k.answered(EdgeKit::rich, "restore", RESTORE, new int[] {3});
        k.refused(KitchenTouch::new, "restore", RESTORE, new int[] {-3});
        k.refused(() -> EdgeKit.with(EdgeKit.kitchen(VESSEL), 0, SOURCE, 0, 1, 0), "restore", RESTORE, new int[] {-3});
    }

    private static void counts() {
        k.sentence("Promise 28: -9 for another what");
        EdgeKit.Call count = (x, a) -> x.count(a[0]);
        k.asked(EdgeKit::rich, "count", count, new int[] {6, 0}, new int[] {6, 1}, new int[] {4, 2}, new int[] {2, 3},
            new int[] {2, 4}, new int[] {2, 5}, new int[] {-9, -1}, new int[] {-9, 6}, new int[] {-9, 7}, new int[] {-9, 9},
            new int[] {-9, 10}, new int[] {-9, 17}, new int[] {-9, 18}, new int[] {-9, MIN}, new int[] {-9, MAX});
        k.sentence("Promise 28: the greatest of each");
        KitchenTouch full = new KitchenTouch();
        int[] most = {12, 60, 6, 12, 5, 80};
        for (int what = 0; what <= 5; what++) {
            for (int i = 1; i <= most[what]; i++) {
                if (what == 0) full.thing(i % 5, false, false);
                if (what == 1) full.event(i % 48, WET, 0, 0, -1);
                if (what == 2 && i == 1) for (int e = 0; e < 6; e++) full.takeBack();
                if (what == 2) full.event(0, WET, 0, 0, i % 2 == 0 ? i - 1 : 9 + i);
                if (what == 3) full.fact(0, 0, true);
                if (what == 4) full.step(0, 0, 1);
                if (what == 5) full.feed(1, 't');
                k.is("count(" + what + ")", full.count(what), i);
            }
        }
        for (int what = 0; what <= 5; what++) k.is("full, count(" + what + ")", full.count(what), most[what]);
        k.sentence("Promise 28: 11 .. 16 REFUSALS -1 .. -6");
        KitchenTouch x = EdgeKit.rich();
        for (int i = 0; i < 2; i++) x.sure(6, 0);
        for (int i = 0; i < 3; i++) x.ways(2);
        for (int i = 0; i < 4; i++) x.thing(EdgeKit.JOINED, false, false);
        for (int i = 0; i < 5; i++) x.rivals(-1);
        for (int i = 0; i < 6; i++) x.rivals(48);
        int[] due = {2, 3, 4, 5, 0, 6};
        for (int i = 0; i < 6; i++) k.is("count(" + (11 + i) + ")", x.count(11 + i), due[i]);
        k.sentence("a REFUSAL is no answer of -9 or of a FAULT");
        KitchenTouch y = EdgeKit.feed(EdgeKit.kitchen(VESSEL), "t9");
        y.fact(0, 0, false);
        k.is("sure", y.sure(0, 0), -9);
        k.is("when", y.when(0, 0), -9);
        k.is("rivals", y.rivals(0), -9);
        k.is("question", y.question(0, 0), -9);
        k.is("washing", y.washing(0, 0), -9);
        k.is("cooking", y.cooking(0), -9);
        k.is("count", y.count(6), -9);
        k.is("house", y.house(), -21);
        for (int i = 1; i <= 6; i++) k.is("count(" + (10 + i) + ")", y.count(10 + i), 0);
    }

    public static void main(String[] args) {
        things();
        laws();
        events();
        eventNumbers();
        told();
        texts();
        states();
        facts();
        doubts();
        washings();
        cooking();
        images();
        counts();
        k.end();
    }
}
