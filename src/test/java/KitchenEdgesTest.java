/** The document's Terms I: a test for each sentence that tells where something begins, ends, or does nothing. */
public final class KitchenEdgesTest {
    private static final EdgeKit k = new EdgeKit("KitchenEdgesTest");
    private static final int VESSEL = EdgeKit.VESSEL, FOOD = EdgeKit.FOOD, LIQUID = EdgeKit.LIQUID;
    private static final int PERSON = EdgeKit.PERSON, GROUND = EdgeKit.GROUND, JOINED = EdgeKit.JOINED;
    private static final int TOUCH = EdgeKit.TOUCH, INSIDE = EdgeKit.INSIDE, ROOF = EdgeKit.ROOF, CARRY = EdgeKit.CARRY;
    private static final int POUR = EdgeKit.POUR, WASH = EdgeKit.WASH, BREAK = EdgeKit.BREAK, APART = EdgeKit.APART;
    private static final int WET = EdgeKit.WET, SOURCE = EdgeKit.SOURCE;

    private static KitchenTouch with(KitchenTouch x, int... events) {
        return EdgeKit.with(x, events);
    }

    private static KitchenTouch kitchen(int... kinds) {
        return EdgeKit.kitchen(kinds);
    }

    /** A kitchen whose PERSONS take all degrees, or none, by THE LAW. */
    private static KitchenTouch persons(int takes, int... kinds) {
        KitchenTouch x = kitchen(kinds);
        x.takes(PERSON, takes, false);
        return x;
    }

    private static void states(String what, KitchenTouch x, int hour, int... due) {
        for (int t = 0; t < due.length; t++) k.is(what + ", thing " + t + ", hour " + hour, x.state(0, t, hour), due[t]);
    }

    private static int lesser(int one, int two) {
        return one == 0 ? two : two == 0 ? one : Math.min(one, two);
    }

    // ---- things

    private static void things() {
        k.sentence("THINGS 0 .. 11 as they come");
        KitchenTouch x = new KitchenTouch();
        k.is("no thing 0", x.state(0, 0, 0), -1);
        for (int t = 0; t < 12; t++) {
            k.is("number", x.thing(t % 5, false, false), t);
            k.is("it is there", x.state(0, t, 0), 0);
            k.is("the next is not", x.state(0, t + 1, 0), -1);
        }
        with(x, 0, SOURCE, 11, 2, -1);
        k.is("the last has a state", x.state(0, 11, 0), 2);
        k.is("the one ahead of it has its own", x.state(0, 10, 0), 0);

        k.sentence("JOINED to the THING of the number ahead, that must be there and no GROUND");
        k.is("nothing is there", new KitchenTouch().thing(JOINED, false, false), -3);
        for (int kind = 0; kind <= 5; kind++) {
            KitchenTouch y = kind == JOINED ? kitchen(VESSEL, JOINED) : kitchen(kind);
            int n = y.count(0);
            k.is("behind kind " + kind, y.thing(JOINED, false, false), kind == GROUND ? -3 : n);
            if (kind == GROUND) continue;
            with(y, 0, SOURCE, n - 1, 3, -1);
            k.is("it is joined to kind " + kind, y.state(0, n, 0), 3);
        }
        KitchenTouch z = kitchen(VESSEL, GROUND, VESSEL, JOINED);
        with(z, 0, SOURCE, 3, 2, -1);
        states("to the number ahead alone", z, 0, 0, 0, 2, 2);

        k.sentence("WET or not (told as it comes); in PRIVATE or not");
        for (int wet = 0; wet < 2; wet++) {
            for (int hidden = 0; hidden < 2; hidden++) {
                KitchenTouch y = kitchen(GROUND);
                y.thing(FOOD, wet == 1, hidden == 1);
                with(y, 0, SOURCE, 0, 1, 0, 1, TOUCH, 0, 1, -1);
                k.is("wet " + wet + ", private " + hidden, y.state(1, 1, 1), wet == 1 ? 2 : 0);
                if (wet == 1) k.is("judged, private " + hidden, y.judged(1, 1), hidden == 1 ? 0 : 1);
            }
        }
    }

    private static void thingsOfTheirOwn() {
        k.sentence("in PRIVATE or not, WET or not: each THING by itself");
        for (int set = 0; set < 16; set++) {
            KitchenTouch x = kitchen(GROUND);
            for (int t = 0; t < 4; t++) x.thing(FOOD, (set >> t & 1) == 1, (set >> t & 1) == 0);
            with(x, 0, SOURCE, 0, 1, -1);
            for (int t = 0; t < 4; t++) with(x, 0, SOURCE, 1 + t, 3, 0, 1, TOUCH, 0, 1 + t, 1);
            for (int t = 0; t < 4; t++) {
                k.is("private, set " + set + ", " + t, x.judged(1 + t, 0), set >> t & 1);
                k.is("wet, set " + set + ", " + t, x.state(2, 1 + t, 1), (set >> t & 1) == 1 ? 2 : 0);
            }
        }
        k.sentence("a THING told behind EVENTS was there at all of them");
        KitchenTouch x = with(kitchen(VESSEL), 3, SOURCE, 0, 2, -1);
        k.is("its partner", x.state(0, 0, 3), 2);
        x.thing(JOINED, false, false);
        k.is("a JOINED one has it behind that EVENT", x.state(0, 1, 3), 2);
        k.is("not ahead", x.state(0, 1, 2), 0);
        k.is("when", x.when(0, 1), 3);
        x.thing(JOINED, false, false);
        k.is("one more", x.sure(2, 3), 0);
    }

    // ---- degrees that are given

    private static KitchenTouch giver(int kind, int v, int had, int d) {
        KitchenTouch x = kitchen(GROUND, VESSEL);
        x.thing(kind, true, false);
        x.takes(kind, v, false);
        with(x, 0, SOURCE, 0, d, -1);
        if (had > 0) with(x, 0, SOURCE, 2, had, -1);
        // What a JOINED one has is not to come back from its partner.
        with(x, 1, BREAK, 1, 0, -1);
        return with(x, 2, CARRY, 2, 0, -1);
    }

    private static void degrees() {
        k.sentence("it TAKES it, if d is what its KIND TAKES or less; it gets d and 1 (4 at most), a LIQUID always 1");
        for (int kind = 0; kind <= 5; kind++) {
            for (int v = 0; v <= 4; v++) {
                for (int d = 1; d <= 4; d++) {
                    int due = d > v ? 0 : kind == LIQUID ? 1 : Math.min(4, d + 1);
                    k.is("kind " + kind + " takes " + v + ", given " + d, giver(kind, v, 0, d).state(0, 2, 2), due);
                }
            }
        }
        k.sentence("what each KIND TAKES (at first VESSEL 1, FOOD 2, LIQUID 3, PERSON 1, GROUND 0, JOINED 1)");
        int[] first = {1, 2, 3, 1, 0, 1};
        for (int kind = 0; kind <= 5; kind++) {
            for (int d = 1; d <= 4; d++) {
                KitchenTouch x = kitchen(GROUND, VESSEL);
                x.thing(kind, true, false);
                with(x, 0, SOURCE, 0, d, -1, 1, CARRY, 2, 0, -1);
                int due = d > first[kind] ? 0 : kind == LIQUID ? 1 : d + 1;
                k.is("kind " + kind + ", given " + d, x.state(0, 2, 1), due);
                k.is("by the other law the same, kind " + kind + ", given " + d, x.beside(1), 0);
            }
        }
        k.sentence("if it is unclean already it keeps the lesser of both");
        for (int had = 1; had <= 4; had++) {
            for (int d = 1; d <= 4; d++) {
                k.is("had " + had + ", given " + d, giver(FOOD, 4, had, d).state(0, 2, 2), Math.min(had, Math.min(4, d + 1)));
                k.is("a liquid, had " + had + ", given " + d, giver(LIQUID, 4, had, d).state(0, 2, 2), 1);
                k.is("had " + had + ", not taken " + d, giver(FOOD, d - 1, had, d).state(0, 2, 2), had);
            }
        }
        k.sentence("what a LIQUID got is 1 for whoever it is given to");
        for (int kind = 0; kind <= 4; kind++) {
            for (int v = 0; v <= 4; v++) {
                for (int d = 1; d <= 3; d++) {
                    KitchenTouch y = kitchen(GROUND, LIQUID);
                    y.thing(kind, true, false);
                    y.takes(kind, v, false);
                    with(y, 0, SOURCE, 0, d, -1, 1, TOUCH, 1, 0, -1, 2, CARRY, 2, 1, -1);
                    boolean got = kind != LIQUID || d <= v;
                    int due = v == 0 || !got ? 0 : kind == LIQUID ? 1 : 2;
                    k.is("kind " + kind + " takes " + v + ", given " + d + " by a LIQUID", y.state(0, 2, 2), due);
                }
            }
        }
        k.sentence("a THING that is clean gives nothing");
        KitchenTouch x = persons(4, PERSON, PERSON);
        for (int kind = TOUCH; kind <= POUR; kind++) with(x, kind, kind, 0, 1, -1);
        states("clean ones", x, 47, 0, 0);

        k.sentence("it is no FOOD that is not WET (a LIQUID is always WET)");
        for (int kind = 0; kind <= 4; kind++) {
            KitchenTouch y = kitchen(GROUND, kind);
            y.takes(kind, 4, false);
            with(y, 0, SOURCE, 0, 1, -1, 1, TOUCH, 0, 1, -1);
            k.is("dry, kind " + kind, y.state(0, 1, 1), kind == FOOD ? 0 : kind == LIQUID ? 1 : 2);
        }
        // HOUR of WET, HOUR of TOUCH, whether WET is told first, what it is then.
        int[][] wetted = {{0, 1, 1, 2}, {0, 1, 0, 2}, {1, 1, 1, 2}, {1, 1, 0, 0}, {2, 1, 1, 0}, {2, 1, 0, 0}};
        for (int[] row : wetted) {
            KitchenTouch y = with(kitchen(GROUND, FOOD), 0, SOURCE, 0, 1, -1);
            if (row[2] == 1) with(y, row[0], WET, 1, 0, -1);
            with(y, row[1], TOUCH, 0, 1, -1);
            if (row[2] == 0) with(y, row[0], WET, 1, 0, -1);
            k.is("wet at " + row[0] + ", touched at " + row[1] + ", told first " + row[2], y.state(0, 1, 47), row[3]);
        }
        KitchenTouch late = with(kitchen(GROUND, FOOD), 0, SOURCE, 0, 1, -1, 1, WET, 1, 0, 10, 2, TOUCH, 0, 1, -1);
        k.is("wet in the way in which it was wetted", late.state(0, 1, 2), 2);
        k.is("dry in the other", late.state(1, 1, 2), 0);

        k.sentence("it is not BROKEN");
        for (int kind : new int[] {VESSEL, JOINED}) {
            KitchenTouch y = kitchen(GROUND, VESSEL, kind);
            with(y, 0, SOURCE, 0, 1, -1, 0, BREAK, 1, 0, -1, 1, BREAK, 2, 0, 0, 2, TOUCH, 0, 2, -1);
            k.is("broken, kind " + kind, y.state(1, 2, 2), 0);
            k.is("not broken, kind " + kind, y.state(0, 2, 2), 2);
        }
    }

    // ---- events

    private static void giving() {
        k.sentence("TOUCH, INSIDE, ROOF, CARRY, POUR: who is GIVEN what (ROOF: if that was 1)");
        // KIND, STREAM, then what both are if a had 1, b had 1, a had 2, b had 2.
        int[][] rows = {
            {TOUCH, 0, 12, 21, 23, 32}, {INSIDE, 0, 10, 21, 20, 32}, {ROOF, 0, 12, 21, 20, 2}, {CARRY, 0, 10, 21, 20, 32},
            {POUR, 0, 12, 1, 23, 2}, {POUR, 1, 12, 21, 23, 32}, {TOUCH, 1, 12, 21, 23, 32}, {INSIDE, 1, 10, 21, 20, 32},
            {CARRY, 1, 10, 21, 20, 32}, {ROOF, 1, 12, 21, 20, 2}
        };
        for (int[] row : rows) {
            for (int c = 0; c < 4; c++) {
                KitchenTouch x = persons(4, PERSON, PERSON);
                x.law(0, row[1]);
                with(x, 0, SOURCE, c % 2, c < 2 ? 1 : 2, -1, 1, row[0], 0, 1, -1);
                states("kind " + row[0] + ", stream " + row[1] + ", case " + c, x, 1, row[2 + c] / 10, row[2 + c] % 10);
            }
        }
        k.sentence("What \"had\" is as it was ahead of the EVENT");
        // The LIQUID becomes 1 in the event; the VESSEL, that takes 1 alone, is given nothing of that.
        int[][] both = {{TOUCH, 0, 0, 1}, {TOUCH, 0, 1, 0}, {POUR, 1, 0, 1}, {POUR, 1, 1, 0}};
        for (int[] row : both) {
            KitchenTouch x = kitchen(LIQUID, VESSEL);
            x.law(0, row[1]);
            with(x, 0, SOURCE, 1, 3, -1, 1, row[0], row[2], row[3], -1);
            states("kind " + row[0], x, 1, 1, 3);
        }
        k.sentence("ROOF: each is GIVEN what the other had, if that was 1");
        for (int d = 1; d <= 4; d++) {
            KitchenTouch x = persons(4, PERSON, PERSON);
            with(x, 0, SOURCE, 0, d, -1, 1, ROOF, 0, 1, -1, 1, ROOF, 1, 0, -1);
            states("had " + d, x, 1, d, d == 1 ? 2 : 0);
        }
        for (int v = 0; v <= 4; v++) {
            for (int d = 1; d <= 4; d++) {
                KitchenTouch x = persons(v, PERSON, PERSON);
                with(x, 0, SOURCE, 0, d, -1, 1, ROOF, 0, 1, -1);
                states("takes " + v + ", had " + d, x, 1, d, d == 1 && v >= 1 ? 2 : 0);
            }
        }
        KitchenTouch two = persons(4, PERSON, PERSON);
        with(two, 0, SOURCE, 0, 1, -1, 0, SOURCE, 1, 4, -1, 1, ROOF, 0, 1, -1);
        states("the one that had 1 is given nothing", two, 1, 1, 2);
    }

    /** A kitchen whose thing 2 is of a KIND and has a DEGREE, joined to a BROKEN one if it is JOINED. */
    private static KitchenTouch of(int kind, int degree) {
        KitchenTouch x = kitchen(GROUND, VESSEL);
        x.thing(kind, true, false);
        with(x, 0, BREAK, 1, 0, -1);
        if (degree > 0) with(x, 0, SOURCE, 2, degree, -1);
        return x;
    }

    private static void altering() {
        for (int kind = 0; kind <= 5; kind++) {
            boolean vessel = kind == VESSEL || kind == JOINED;
            for (int d = 1; d <= 4; d++) {
                k.sentence("WASH a: a VESSEL (JOINED too) is clean; an unclean PERSON is WASHED; others nothing: KIND " + kind + ", " + d);
                KitchenTouch x = with(of(kind, d), 23, WASH, 2, 0, -1);
                k.is("ahead", x.state(0, 2, 22), d);
                k.is("washed", x.state(0, 2, 23), vessel ? 0 : d);
                k.is("from sunset on", x.state(0, 2, 24), vessel || kind == PERSON ? 0 : d);
                k.sentence("BREAK a: a VESSEL (JOINED too) is clean and BROKEN; others nothing: KIND " + kind + ", " + d);
                x = with(of(kind, d), 23, BREAK, 2, 0, -1);
                k.is("ahead", x.state(0, 2, 22), d);
                k.is("broken", x.state(0, 2, 23), vessel ? 0 : d);
                k.is("it stays so", x.state(0, 2, 47), vessel ? 0 : d);
                k.sentence("APART, WET: nothing of a DEGREE: KIND " + kind + ", " + d);
                x = with(of(kind, d), 1, APART, 2, 0, -1, 2, WET, 2, 0, -1);
                k.is("as it was", x.state(0, 2, 47), d);
            }
            k.sentence("BREAK a: others nothing: what it TAKES, KIND " + kind);
            KitchenTouch x = of(kind, 0);
            x.takes(kind, 4, false);
            with(x, 1, BREAK, 2, 0, -1, 2, SOURCE, 0, 1, -1, 3, TOUCH, 0, 2, -1);
            k.is("given behind it", x.state(0, 2, 3), vessel ? 0 : kind == LIQUID ? 1 : 2);
            with(x, 4, SOURCE, 2, 1, -1, 5, WASH, 2, 0, -1);
            k.is("a source all the same", x.state(0, 2, 4), 1);
            k.is("a broken VESSEL is washed, too", x.state(0, 2, 5), vessel ? 0 : 1);
        }
        k.sentence("an unclean PERSON is WASHED");
        KitchenTouch clean = with(of(PERSON, 0), 1, WASH, 2, 0, -1, 2, SOURCE, 2, 1, -1);
        k.is("a clean one is not", clean.state(0, 2, 24), 1);
        KitchenTouch again = with(of(PERSON, 0), 1, WASH, 2, 0, -1, 2, SOURCE, 2, 1, -1, 2, WASH, 2, 0, -1);
        k.is("one that has become unclean", again.state(0, 2, 24), 0);
        k.sentence("BREAK: BROKEN for good");
        KitchenTouch broken = with(kitchen(GROUND, VESSEL), 0, SOURCE, 0, 1, -1, 0, BREAK, 1, 0, -1, 1, WASH, 1, 0, -1,
            24, WET, 1, 0, -1, 47, TOUCH, 0, 1, -1);
        k.is("washing mends nothing", broken.state(0, 1, 47), 0);
        k.sentence("SOURCE: a has DEGREE b (whatever it TAKES, BROKEN ones too; the lesser of both, if it is unclean)");
        for (int kind = 0; kind <= 5; kind++) {
            for (int had = 0; had <= 4; had++) {
                for (int b = 1; b <= 4; b++) {
                    KitchenTouch x = of(kind, had);
                    x.takes(kind, 0, false);
                    k.is("kind " + kind + " had " + had + ", source " + b, with(x, 1, SOURCE, 2, b, -1).state(0, 2, 1), lesser(had, b));
                }
            }
        }
        k.is("dry food", with(kitchen(FOOD), 0, SOURCE, 0, 4, -1).state(0, 0, 0), 4);
        for (int b = 1; b <= 4; b++) {
            KitchenTouch x = with(kitchen(VESSEL), 0, BREAK, 0, 0, -1, 1, SOURCE, 0, b, -1, 2, SOURCE, 0, 5 - b, -1);
            k.is("a broken one, source " + b, x.state(0, 0, 1), b);
            k.is("a broken one, the lesser", x.state(0, 0, 2), Math.min(b, 5 - b));
        }
    }

    private static void apart() {
        k.sentence("APART: a JOINED a is no longer joined (its KIND stays); others nothing");
        KitchenTouch x = with(kitchen(VESSEL, JOINED), 0, APART, 1, 0, -1, 1, SOURCE, 0, 3, -1, 2, SOURCE, 1, 2, -1);
        states("the partner's does not come", x, 1, 3, 0);
        states("nor its own to the partner", x, 2, 3, 2);
        for (int kind = 0; kind <= 3; kind++) {
            x = with(kitchen(kind, JOINED), 0, APART, 0, 0, -1, 1, SOURCE, 1, 2, -1);
            states("its partner told apart, kind " + kind, x, 1, 2, 2);
        }
        x = with(kitchen(VESSEL, JOINED, JOINED), 0, APART, 1, 0, -1, 1, SOURCE, 1, 2, -1);
        states("one joined to it still is", x, 1, 0, 2, 2);
        x = with(kitchen(VESSEL, JOINED, JOINED), 0, APART, 2, 0, -1, 1, SOURCE, 1, 2, -1);
        states("the one behind apart", x, 1, 2, 2, 0);
        x = with(kitchen(VESSEL, JOINED, JOINED), 0, SOURCE, 2, 2, -1, 1, APART, 1, 0, -1);
        states("from this EVENT on", x, 1, 0, 2, 2);
        x = with(kitchen(VESSEL, JOINED, JOINED), 0, SOURCE, 2, 2, -1, 1, APART, 2, 0, -1);
        states("what it gave stays", x, 1, 2, 2, 2);
        x = with(kitchen(GROUND, VESSEL, JOINED), 0, APART, 2, 0, -1, 1, SOURCE, 0, 1, -1, 2, TOUCH, 0, 2, -1, 3, WASH, 2, 0, -1);
        states("it takes as JOINED", x, 2, 1, 0, 2);
        states("it is washed as a VESSEL", x, 3, 1, 0, 0);
        x = with(kitchen(VESSEL, JOINED), 0, APART, 1, 0, 0, 1, SOURCE, 0, 2, -1);
        k.is("apart in one way", x.state(1, 1, 1), 0);
        k.is("joined in the other", x.state(0, 1, 1), 2);
        x = with(kitchen(VESSEL, JOINED), 0, APART, 1, 0, -1, 1, APART, 1, 0, -1, 2, SOURCE, 0, 2, -1);
        states("apart twice", x, 2, 2, 0);
    }

    private static void unknowns() {
        k.sentence("it was, if an UNKNOWN u (0 .. 5) is 1 (told u), or 0 (told 10 and u); told -1: it was");
        for (int u = 0; u <= 5; u++) {
            KitchenTouch one = with(kitchen(VESSEL), 0, SOURCE, 0, 2, u);
            KitchenTouch not = with(kitchen(VESSEL), 0, SOURCE, 0, 2, 10 + u);
            for (int way = 0; way < 64; way++) {
                k.is("told " + u + ", way " + way, one.state(way, 0, 0), (way >> u & 1) == 1 ? 2 : 0);
                k.is("told 10 and " + u + ", way " + way, not.state(way, 0, 0), (way >> u & 1) == 1 ? 0 : 2);
            }
        }
        KitchenTouch x = with(kitchen(VESSEL), 0, SOURCE, 0, 2, -1);
        for (int way = 0; way < 64; way++) k.is("told -1, way " + way, x.state(way, 0, 0), 2);

        k.sentence("those that no EVENT names are 0 in all WAYS; told all the same they do nothing");
        for (int u = 0; u <= 5; u++) {
            KitchenTouch y = with(kitchen(VESSEL), 0, SOURCE, 0, 1, u);
            k.is("ways", y.ways(0), 2);
            k.is("named", y.count(2), 1);
            k.is("clean in", y.many(0, 0), 1);
            for (int other = 0; other <= 5; other++) {
                if (other != u) k.is("way of " + other, y.state(1 << other, 0, 0), 0);
            }
            k.is("all but it", y.state(63 - (1 << u), 0, 0), 0);
            k.is("when, all but it", y.when(63 - (1 << u), 0), -9);
            k.is("all", y.state(63, 0, 0), 1);
            y = with(kitchen(VESSEL), 0, WET, 0, 0, 10 + u);
            k.is("named by 10 and u", y.ways(0), 2);
            y.takeBack();
            k.is("no longer named", y.ways(0), 1);
            k.is("no longer named, count", y.count(2), 0);
        }
        KitchenTouch all = kitchen(VESSEL);
        for (int u = 0; u <= 5; u++) {
            with(all, 0, WET, 0, 0, u % 2 == 0 ? u : 10 + u, 0, WET, 0, 0, u);
            k.is("ways by " + (u + 1), all.ways(0), 2 << u);
            k.is("named by " + (u + 1), all.count(2), u + 1);
        }
    }

    /** Of an EVENT in one way nothing comes in another: 0 was for UNKNOWN 0, 1 for 1, at another HOUR. */
    private static void ways() {
        k.sentence("a WAY: what was in one way changes nothing of another");
        KitchenTouch x = with(kitchen(GROUND, VESSEL), 0, SOURCE, 0, 1, -1, 1, BREAK, 1, 0, 0, 2, BREAK, 1, 0, 1, 3, TOUCH, 0, 1, -1);
        int[] broken = {2, 0, 0, 0};
        for (int way = 0; way < 4; way++) k.is("BROKEN, way " + way, x.state(way, 1, 3), broken[way]);
        x = with(kitchen(VESSEL, JOINED), 1, APART, 1, 0, 0, 2, APART, 1, 0, 1, 3, SOURCE, 0, 2, -1);
        int[] apart = {2, 0, 0, 0};
        for (int way = 0; way < 4; way++) k.is("APART, way " + way, x.state(way, 1, 3), apart[way]);
        x = with(kitchen(GROUND, FOOD), 0, SOURCE, 0, 1, -1, 1, WET, 1, 0, 0, 2, WET, 1, 0, 1, 3, TOUCH, 0, 1, -1);
        int[] wet = {0, 2, 2, 2};
        for (int way = 0; way < 4; way++) k.is("WET, way " + way, x.state(way, 1, 3), wet[way]);
        x = with(kitchen(PERSON, GROUND), 0, SOURCE, 0, 1, -1, 1, WASH, 0, 0, 0, 2, WASH, 0, 0, 1);
        int[] washed = {1, 0, 0, 0};
        for (int way = 0; way < 4; way++) k.is("WASHED, way " + way, x.state(way, 0, 24), washed[way]);
        x = with(kitchen(PERSON, GROUND), 0, SOURCE, 0, 1, -1, 1, SOURCE, 0, 1, 0);
        for (int way = 0; way < 4; way++) k.is("not WASHED by a SOURCE of another way, way " + way, x.state(way, 0, 24), 1);
        x = with(kitchen(PERSON, GROUND), 0, SOURCE, 0, 1, -1, 0, SOURCE, 1, 1, -1, 1, TOUCH, 0, 1, 0);
        for (int way = 0; way < 4; way++) k.is("not WASHED by a touch of another way, way " + way, x.state(way, 0, 24), 1);
        x = with(kitchen(PERSON, GROUND), 0, SOURCE, 0, 1, -1, 0, SOURCE, 1, 1, -1, 1, WASH, 0, 0, -1, 2, TOUCH, 0, 1, 0);
        for (int way = 0; way < 4; way++) k.is("WASHED still but for a touch, way " + way, x.state(way, 0, 24), way % 2);
        x = with(kitchen(PERSON, JOINED), 0, SOURCE, 0, 2, -1, 1, WASH, 0, 0, -1, 2, SOURCE, 1, 1, 0);
        for (int way = 0; way < 4; way++) k.is("WASHED still but for its JOINED one, way " + way, x.state(way, 0, 24), way % 2);
        x = with(kitchen(VESSEL, VESSEL), 0, SOURCE, 0, 3, 0, 0, SOURCE, 0, 2, 1, 0, WASH, 0, 0, 12);
        for (int way = 0; way < 8; way++) {
            k.is("DEGREES, way " + way, x.state(way, 0, 0), way < 4 ? 0 : new int[] {0, 3, 2, 2}[way % 4]);
        }
    }

    // ---- joined ones

    private static void joined() {
        k.sentence("JOINED ones by numbers (once)");
        states("up the numbers at once", with(kitchen(VESSEL, JOINED, JOINED, JOINED), 0, SOURCE, 0, 2, -1), 0, 2, 2, 2, 2);
        KitchenTouch x = with(kitchen(VESSEL, JOINED, JOINED, JOINED), 0, SOURCE, 3, 2, -1, 1, WET, 0, 0, -1, 2, WET, 0, 0, -1);
        states("down one behind each EVENT", x, 0, 0, 0, 2, 2);
        states("down two", x, 1, 0, 2, 2, 2);
        states("down three", x, 2, 2, 2, 2, 2);
        states("the second of four", with(kitchen(VESSEL, JOINED, JOINED, JOINED), 0, SOURCE, 1, 2, -1), 0, 2, 2, 2, 2);

        k.sentence("each and its partner have the lesser DEGREE of both, if one is unclean");
        for (int one = 0; one <= 4; one++) {
            for (int two = 0; two <= 4; two++) {
                KitchenTouch y = kitchen(VESSEL, JOINED);
                if (one > 0) with(y, 0, SOURCE, 0, one, -1);
                if (two > 0) with(y, 0, SOURCE, 1, two, -1);
                with(y, 0, WET, 0, 0, -1);
                states(one + " and " + two, y, 0, lesser(one, two), lesser(one, two));
            }
        }
        k.sentence("(that of the unclean one as it is, of a LIQUID, too); a partner of any KIND");
        for (int kind : new int[] {VESSEL, FOOD, LIQUID, PERSON, JOINED}) {
            for (int d = 1; d <= 4; d++) {
                for (int from = 0; from < 2; from++) {
                    KitchenTouch y = kitchen(VESSEL, kind, JOINED);
                    for (int each = 0; each <= 5; each++) y.takes(each, 0, false);
                    with(y, 0, BREAK, 0, 0, -1, 1, SOURCE, 1 + from, d, -1);
                    states("kind " + kind + ", from " + from, y, 1, 0, d, d);
                }
            }
        }
        k.sentence("not if either is BROKEN");
        for (int broken = 0; broken < 2; broken++) {
            for (int from = 0; from < 2; from++) {
                x = with(kitchen(VESSEL, JOINED), 0, BREAK, broken, 0, -1, 1, SOURCE, from, 2, -1);
                states("broken " + broken + ", from " + from, x, 1, from == 0 ? 2 : 0, from == 1 ? 2 : 0);
            }
        }
        x = with(kitchen(VESSEL, JOINED), 0, SOURCE, 0, 2, -1, 1, BREAK, 1, 0, -1);
        states("from the EVENT on by which it broke", x, 1, 2, 0);
        x = with(kitchen(PERSON, JOINED), 0, BREAK, 0, 0, -1, 1, SOURCE, 0, 2, -1);
        states("what does not break is joined still", x, 1, 2, 2);
        x = with(kitchen(VESSEL, JOINED), 0, BREAK, 0, 0, 0, 1, SOURCE, 1, 2, -1);
        k.is("broken in one way", x.state(1, 0, 1), 0);
        k.is("whole in the other", x.state(0, 0, 1), 2);

        k.sentence("Behind each EVENT that was");
        for (int kind = 0; kind <= 9; kind++) {
            x = with(kitchen(VESSEL, JOINED, JOINED, GROUND, GROUND), 0, SOURCE, 2, 2, -1, 1, kind, 3, 4, 0);
            k.is("one that was, kind " + kind, x.state(1, 0, 1), 2);
            k.is("one that was not, kind " + kind, x.state(0, 0, 1), 0);
        }
        k.sentence("who has it already gets nothing anew");
        x = with(kitchen(PERSON, JOINED), 0, SOURCE, 0, 2, -1, 1, WASH, 0, 0, -1, 2, WET, 0, 0, -1);
        states("a washed one with the same", x, 23, 2, 2);
        states("is clean from sunset on", x, 24, 0, 2);
        x = with(kitchen(VESSEL, JOINED), 0, SOURCE, 0, 2, -1, 1, SOURCE, 1, 2, -1);
        k.is("its source stays", x.sources(1, 1), 1);
        k.is("the partner's, too", x.sources(0, 1), 1);
    }

    // ---- sunset

    private static KitchenTouch washedPerson(int degree, int hour) {
        return with(persons(4, PERSON, JOINED, GROUND, GROUND), 0, APART, 1, 0, -1, 0, SOURCE, 0, degree, -1,
            0, SOURCE, 2, 1, -1, 0, SOURCE, 3, 4, -1, hour, WASH, 0, 0, -1);
    }

    private static void sunset() {
        k.sentence("A PERSON that was WASHED is clean from sunset on: ahead of EVENTS of HOUR 24");
        for (int hour : new int[] {0, 1, 22, 23}) {
            for (int d = 1; d <= 4; d++) {
                KitchenTouch x = washedPerson(d, hour);
                k.is("hour 22, washed at " + hour, x.state(0, 0, 22), d);
                k.is("hour 23, washed at " + hour, x.state(0, 0, 23), d);
                k.is("hour 24, washed at " + hour, x.state(0, 0, 24), 0);
                k.is("hour 47, washed at " + hour, x.state(0, 0, 47), 0);
            }
        }
        KitchenTouch y = persons(4, PERSON, PERSON);
        with(y, 24, TOUCH, 0, 1, -1, 0, SOURCE, 0, 1, -1, 23, WASH, 0, 0, -1);
        states("it gives nothing at hour 24", y, 24, 0, 0);
        y = persons(4, PERSON, PERSON);
        with(y, 23, WASH, 0, 0, -1, 23, TOUCH, 0, 1, -1, 0, SOURCE, 0, 1, -1);
        states("it gives at hour 23", y, 23, 1, 2);
        y = with(washedPerson(1, 23), 24, SOURCE, 0, 3, -1);
        k.is("unclean anew at hour 24", y.state(0, 0, 24), 3);

        k.sentence("if it was WASHED in HOURS 24 .. 47, never here");
        for (int hour : new int[] {24, 25, 46, 47}) k.is("washed at " + hour, washedPerson(2, hour).state(0, 0, 47), 2);
        y = with(washedPerson(2, 23), 24, SOURCE, 0, 3, -1, 24, WASH, 0, 0, -1);
        k.is("washed ahead and behind", y.state(0, 0, 47), 3);
        y = with(washedPerson(2, 24), 3, WASH, 0, 0, -1);
        k.is("washed behind and ahead", y.state(0, 0, 24), 0);

        k.sentence("(nothing is joined by that)");
        y = with(kitchen(PERSON, JOINED), 0, SOURCE, 0, 2, -1, 1, WASH, 0, 0, -1);
        states("hour 23", y, 23, 2, 2);
        states("hour 24", y, 24, 0, 2);
        states("hour 47", y, 47, 0, 2);
        states("behind an EVENT of hour 24", with(y, 24, WET, 0, 0, -1), 24, 2, 2);
        y = with(kitchen(PERSON, JOINED), 0, SOURCE, 0, 2, -1, 1, WASH, 0, 0, -1, 24, WET, 0, 0, 0);
        k.is("behind one of hour 24 that was", y.state(1, 0, 24), 2);
        k.is("behind one of hour 24 that was not", y.state(0, 0, 24), 0);
    }

    private static void anew() {
        k.sentence("if it gets a DEGREE anew (by a SOURCE: also the same one, or a weaker one, which it keeps not)");
        for (int had = 1; had <= 4; had++) {
            for (int b = 1; b <= 4; b++) {
                k.is("had " + had + ", source " + b, with(washedPerson(had, 1), 2, SOURCE, 0, b, -1).state(0, 0, 24), Math.min(had, b));
            }
        }
        k.sentence("if it gets a DEGREE anew (by what it TAKES: also the same one, or a weaker one, which it keeps not)");
        for (int had = 1; had <= 4; had++) {
            k.is("had " + had + ", given 1", with(washedPerson(had, 1), 2, TOUCH, 0, 2, -1).state(0, 0, 24), Math.min(had, 2));
            k.is("had " + had + ", given 4", with(washedPerson(had, 1), 2, CARRY, 0, 3, -1).state(0, 0, 24), had);
            KitchenTouch x = washedPerson(had, 1);
            x.takes(PERSON, 3, false);
            k.is("had " + had + ", 4 is not taken", with(x, 2, CARRY, 0, 3, -1).state(0, 0, 24), 0);
            x = washedPerson(had, 1);
            x.takes(PERSON, 0, false);
            k.is("had " + had + ", 1 is not taken", with(x, 2, TOUCH, 0, 2, -1).state(0, 0, 24), 0);
            k.is("had " + had + ", a roof of 4", with(washedPerson(had, 1), 2, ROOF, 0, 3, -1).state(0, 0, 24), 0);
            k.is("had " + had + ", of one that is clean", with(washedPerson(had, 1), 2, TOUCH, 0, 1, -1).state(0, 0, 24), 0);
        }
        k.sentence("if it gets a DEGREE anew (by its JOINED one: a lesser one alone)");
        for (int had = 1; had <= 4; had++) {
            for (int d = 1; d <= 4; d++) {
                KitchenTouch x = with(persons(0, PERSON, JOINED), 0, SOURCE, 0, had, -1, 1, WASH, 0, 0, -1, 2, SOURCE, 1, d, -1);
                k.is("had " + had + ", joined " + d, x.state(0, 0, 24), d < had ? d : 0);
            }
        }
        k.sentence("it is not WASHED any more");
        KitchenTouch x = with(washedPerson(1, 1), 2, SOURCE, 0, 4, -1, 3, WASH, 0, 0, -1);
        k.is("washed again", x.state(0, 0, 24), 0);
        x = with(washedPerson(1, 1), 2, WASH, 0, 0, -1);
        k.is("washed twice", x.state(0, 0, 24), 0);
        x = with(washedPerson(1, 1), 1, SOURCE, 0, 1, -1);
        k.is("anew in the same hour, behind", x.state(0, 0, 24), 1);
        x = with(washedPerson(1, 1), 0, SOURCE, 0, 1, -1);
        k.is("anew ahead of it, told later", x.state(0, 0, 24), 0);
        x = with(washedPerson(1, 1), 2, SOURCE, 0, 4, 3);
        k.is("anew in one way", x.state(8, 0, 24), 1);
        k.is("not in the other", x.state(0, 0, 24), 0);
    }

    // ---- order

    private static void order() {
        k.sentence("EVENTS are done by HOURS, of one HOUR in order as told");
        for (int hour = 0; hour < 47; hour++) {
            KitchenTouch x = with(kitchen(GROUND, PERSON), hour + 1, TOUCH, 0, 1, -1, hour, SOURCE, 0, 1, -1);
            k.is("source at " + hour + ", touch an hour later", x.state(0, 1, 47), 2);
            x = with(kitchen(GROUND, PERSON), hour, TOUCH, 0, 1, -1, hour + 1, SOURCE, 0, 1, -1);
            k.is("touch at " + hour + ", source an hour later", x.state(0, 1, 47), 0);
        }
        for (int hour : new int[] {0, 23, 24, 47}) {
            KitchenTouch x = with(kitchen(GROUND, PERSON), hour, SOURCE, 0, 1, -1, hour, TOUCH, 0, 1, -1);
            k.is("source, then touch, at " + hour, x.state(0, 1, hour), 2);
            x = with(kitchen(GROUND, PERSON), hour, TOUCH, 0, 1, -1, hour, SOURCE, 0, 1, -1);
            k.is("touch, then source, at " + hour, x.state(0, 1, 47), 0);
        }
        KitchenTouch x = kitchen(VESSEL);
        for (int e = 0; e < 60; e++) with(x, 47 - e % 48, e % 2 == 0 ? SOURCE : WASH, 0, 2, -1);
        for (int hour = 0; hour < 48; hour++) {
            // Hour h has event 47 - h, and, for the hours from 36 on, event 95 - h behind it, of the same evenness.
            k.is("sixty told backwards, hour " + hour, x.state(0, 0, hour), (47 - hour) % 2 == 0 ? 2 : 0);
        }
        k.sentence("STATE: its DEGREE behind all EVENTS of that HOUR and earlier ones");
        for (int hour : new int[] {0, 1, 23, 24, 46, 47}) {
            x = with(kitchen(VESSEL), hour, SOURCE, 0, 3, -1, hour, SOURCE, 0, 2, -1);
            if (hour > 0) k.is("ahead of " + hour, x.state(0, 0, hour - 1), 0);
            k.is("at " + hour, x.state(0, 0, hour), 2);
            if (hour < 47) k.is("behind " + hour, x.state(0, 0, hour + 1), 2);
            k.is("when", x.when(0, 0), hour);
        }
        k.sentence("Promise 11: the first HOUR at which it is unclean; -9 never");
        x = with(kitchen(VESSEL), 5, SOURCE, 0, 3, -1, 5, WASH, 0, 0, -1, 7, SOURCE, 0, 4, 0, 8, WASH, 0, 0, -1, 9, SOURCE, 0, 1, -1);
        k.is("clean again within hour 5; in the way of 7", x.when(1, 0), 7);
        k.is("in the other way", x.when(0, 0), 9);
        x.takeBack();
        k.is("never", x.when(0, 0), -9);
        k.is("for an hour", x.when(1, 0), 7);
        x = with(kitchen(VESSEL), 47, SOURCE, 0, 3, -1, 47, WASH, 0, 0, -1);
        k.is("never, the last hour", x.when(0, 0), -9);
    }

    public static void main(String[] args) {
        things();
        thingsOfTheirOwn();
        degrees();
        giving();
        altering();
        apart();
        unknowns();
        ways();
        joined();
        sunset();
        anew();
        order();
        k.end();
    }
}
