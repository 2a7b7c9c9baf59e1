/** The document's Terms II: a test for each sentence that tells of all, some, none, the fewest, the least, the first. */
public final class DoubtEdgesTest {
    private static final EdgeKit k = new EdgeKit("DoubtEdgesTest");
    private static final int VESSEL = EdgeKit.VESSEL, LIQUID = EdgeKit.LIQUID, PERSON = EdgeKit.PERSON;
    private static final int GROUND = EdgeKit.GROUND, JOINED = EdgeKit.JOINED;
    private static final int TOUCH = EdgeKit.TOUCH, INSIDE = EdgeKit.INSIDE, CARRY = EdgeKit.CARRY, POUR = EdgeKit.POUR;
    private static final int WASH = EdgeKit.WASH, BREAK = EdgeKit.BREAK, WET = EdgeKit.WET, SOURCE = EdgeKit.SOURCE;

    private static KitchenTouch with(KitchenTouch x, int... events) {
        return EdgeKit.with(x, events);
    }

    private static KitchenTouch kitchen(int... kinds) {
        return EdgeKit.kitchen(kinds);
    }

    private static KitchenTouch vessels(int number) {
        KitchenTouch x = new KitchenTouch();
        for (int t = 0; t < number; t++) x.thing(VESSEL, false, false);
        return x;
    }

    /** Things 0 .. 5: clean in 64 ways, in 63, in 33, in 32, in 31, in 1, then 8 in none; 6 and 7 are helpers. */
    private static KitchenTouch shares() {
        KitchenTouch x = vessels(9);
        with(x, 0, SOURCE, 1, 1, -1);
        for (int u = 0; u <= 5; u++) with(x, 0, WASH, 1, 0, 10 + u);
        // 6 is clean if 0 .. 4 are all 0; 7 is unclean if they are all 1.
        for (int u = 0; u <= 4; u++) with(x, 0, SOURCE, 6, 1, u);
        with(x, 0, SOURCE, 7, 1, -1);
        for (int u = 0; u <= 4; u++) with(x, 0, WASH, 7, 0, 10 + u);
        with(x, 1, CARRY, 2, 6, 5);
        with(x, 1, SOURCE, 3, 1, 5);
        with(x, 1, SOURCE, 4, 1, 5, 1, CARRY, 4, 7, -1);
        for (int u = 0; u <= 5; u++) with(x, 1, SOURCE, 5, 1, u);
        return with(x, 1, SOURCE, 8, 1, 0, 1, SOURCE, 8, 1, 10);
    }

    // ---- facts, and what is sure

    private static void left() {
        k.sentence("LEFT are WAYS that agree with all FACTS");
        KitchenTouch x = with(vessels(2), 1, SOURCE, 0, 1, 0, 2, SOURCE, 1, 1, 1);
        k.is("no FACT", x.ways(1), 4);
        x.fact(0, 0, true);
        k.is("one that all agree with", x.ways(1), 4);
        x.fact(0, 1, false);
        k.is("one that half agree with", x.ways(1), 2);
        x.fact(0, 1, false);
        k.is("the same again", x.ways(1), 2);
        x.fact(1, 1, true);
        k.is("an hour ahead", x.ways(1), 2);
        x.fact(1, 2, true);
        k.is("of another", x.ways(1), 1);
        x.fact(0, 47, true);
        k.is("of the first at another hour", x.ways(1), 0);
        k.is("all are there still", x.ways(0), 4);
        k.is("six FACTS", x.forget(), 6);
        k.is("none", x.forget(), 0);
        k.is("all again", x.ways(1), 4);
        k.sentence("FACTS (12 at most): one that has no room is none");
        for (int i = 1; i <= 12; i++) k.is("how many", x.fact(0, 0, true), i);
        k.is("no room", x.fact(0, 1, true), -6);
        k.is("all WAYS still", x.ways(1), 4);
        x.forget();
        for (int i = 1; i <= 11; i++) x.fact(0, 0, true);
        k.is("the 12th", x.fact(0, 1, true), 12);
        k.is("it counts", x.ways(1), 2);
        k.sentence("FACTS and WAYS hang on EVENTS as they are now");
        x.takeBack();
        k.is("fewer WAYS", x.ways(1), 1);
        x.takeBack();
        k.is("one WAY", x.ways(0), 1);
        k.is("it agrees", x.ways(1), 1);
        x.fact(0, 0, true);
        with(x, 0, SOURCE, 0, 4, -1);
        k.is("it agrees no more", x.ways(1), 0);
        x = with(vessels(1), 0, SOURCE, 0, 1, 3);
        x.fact(0, 0, false);
        k.is("the WAY in which it was", x.ways(1), 1);
        x.takeBack();
        k.is("no WAY", x.ways(1), 0);
    }

    private static void sure() {
        k.sentence("SURE: 2 clean in all WAYS that are LEFT, 0 in none, 1 in some; MANY: in how many");
        KitchenTouch x = shares();
        int[] many = {64, 63, 33, 32, 31, 1, 2, 62, 0};
        for (int t = 0; t < many.length; t++) {
            k.is("many of " + t, x.many(t, 1), many[t]);
            k.is("sure of " + t, x.sure(t, 1), many[t] == 64 ? 2 : many[t] == 0 ? 0 : 1);
        }
        x.fact(1, 1, false);
        k.is("one WAY is LEFT", x.ways(1), 1);
        for (int t = 0; t < many.length; t++) {
            boolean clean = t == 0;
            k.is("many of " + t + " in it", x.many(t, 1), clean ? 1 : 0);
            k.is("sure of " + t + " in it", x.sure(t, 1), clean ? 2 : 0);
        }
        x.forget();
        x.fact(1, 1, true);
        for (int t = 0; t < many.length; t++) {
            int due = t == 0 ? 63 : Math.min(63, many[t]);
            k.is("many of " + t + " without it", x.many(t, 1), due);
            k.is("sure of " + t + " without it", x.sure(t, 1), due == 63 ? 2 : due == 0 ? 0 : 1);
        }
        k.sentence("Promise 15: -9 no WAY is LEFT; Promise 17: likewise");
        x.fact(1, 1, false);
        for (int t = 0; t < many.length; t++) {
            k.is("sure of " + t, x.sure(t, 1), -9);
            k.is("judged of " + t, x.judged(t, 1), -9);
        }
        k.sentence("MANY: in how many; Promise 16 has -1, -4, -6 alone: in none, where no WAY is LEFT");
        for (int t = 0; t < many.length; t++) {
            for (int hour : new int[] {0, 1, 24, 47}) k.is("many of " + t + " at " + hour, x.many(t, hour), 0);
        }
        k.is("nobody", x.many(many.length, 1), -1);
        k.is("below", x.many(0, -1), -4);
        k.is("no room", x.many(0, 48), -6);
        x.forget();
        k.is("all LEFT again", x.many(0, 1), 64);
    }

    // ---- judged

    private static void judged() {
        k.sentence("Not in DOUBT as it is");
        for (int doubt = 0; doubt <= 3; doubt++) {
            KitchenTouch x = shares();
            x.law(1, doubt);
            k.is("clean in all, doubt " + doubt, x.judged(0, 1), 1);
            k.is("clean in none, doubt " + doubt, x.judged(8, 1), 0);
        }
        k.sentence("in DOUBT by THE LAW's DOUBT for it: 0 unclean; 1 clean");
        for (int t = 1; t <= 7; t++) {
            KitchenTouch x = shares();
            x.law(1, 0);
            k.is("0, of " + t, x.judged(t, 1), 0);
            x.law(1, 1);
            k.is("1, of " + t, x.judged(t, 1), 1);
        }
        k.sentence("2 clean, if it is in more than half of WAYS that are LEFT");
        KitchenTouch x = shares();
        x.law(1, 2);
        int[] due = {1, 1, 1, 0, 0, 0, 0, 1, 0};
        for (int t = 0; t < due.length; t++) k.is("of " + t, x.judged(t, 1), due[t]);
        // Of 4 ways: 3 are LEFT, then 2: clean in 2 of 3, in 1 of 3, in 1 of 2.
        KitchenTouch y = with(vessels(3), 0, SOURCE, 0, 1, 0, 0, SOURCE, 1, 1, 0, 0, SOURCE, 1, 1, 1, 0, SOURCE, 2, 1, 0, 0, WASH, 2, 0, 11);
        y.law(1, 2);
        y.fact(2, 0, true);
        k.is("LEFT", y.ways(1), 3);
        k.is("2 of 3, many", y.many(0, 0), 2);
        k.is("2 of 3", y.judged(0, 0), 1);
        k.is("1 of 3, many", y.many(1, 0), 1);
        k.is("1 of 3", y.judged(1, 0), 0);
        y.fact(0, 0, true);
        k.is("1 of 2, many", y.many(1, 0), 1);
        k.is("1 of 2", y.judged(1, 0), 0);
        k.sentence("(in public, in private)");
        for (int open = 0; open <= 1; open++) {
            for (int hidden = 0; hidden <= 1; hidden++) {
                KitchenTouch z = new KitchenTouch();
                z.thing(VESSEL, false, false);
                z.thing(VESSEL, false, true);
                z.law(1, open);
                z.law(2, hidden);
                with(z, 0, SOURCE, 0, 1, 0, 0, SOURCE, 1, 1, 0);
                k.is("in public " + open, z.judged(0, 0), open);
                k.is("in private " + hidden, z.judged(1, 0), hidden);
            }
        }
    }

    private static void judgedAhead() {
        k.sentence("3 as it was JUDGED at the HOUR ahead (clean ahead of HOUR 0)");
        KitchenTouch x = with(vessels(1), 0, SOURCE, 0, 1, 0);
        x.law(1, 3);
        for (int hour = 0; hour < 48; hour++) k.is("in DOUBT from hour 0 on, hour " + hour, x.judged(0, hour), 1);
        for (int begin : new int[] {0, 1, 23, 24, 46}) {
            // Unclean at an HOUR, in DOUBT from the next on.
            x = with(vessels(1), begin, SOURCE, 0, 1, -1, begin + 1, WASH, 0, 0, 0);
            x.law(1, 3);
            if (begin > 0) k.is("clean ahead of " + begin, x.judged(0, begin - 1), 1);
            k.is("unclean at " + begin, x.judged(0, begin), 0);
            k.is("in DOUBT behind " + begin, x.judged(0, begin + 1), 0);
            k.is("to the end, from " + begin, x.judged(0, 47), 0);
        }
        x = with(vessels(1), 0, SOURCE, 0, 1, -1, 1, WASH, 0, 0, -1, 2, SOURCE, 0, 1, 0, 3, SOURCE, 0, 1, -1, 4, WASH, 0, 0, 0);
        x.law(1, 3);
        int[] due = {0, 1, 1, 0, 0, 0};
        for (int hour = 0; hour < due.length; hour++) k.is("by turns, hour " + hour, x.judged(0, hour), due[hour]);
        k.sentence("0, 1, 2: nothing of the HOUR ahead counts");
        for (int ahead = 0; ahead < 2; ahead++) {
            // Clean, or unclean, in all ways at hour 1; then unclean in half of them, or in one of four.
            x = with(vessels(2), 1, SOURCE, 0, 1, -1, 1, SOURCE, 1, 1, -1);
            if (ahead == 1) with(x, 1, WASH, 0, 0, -1, 1, WASH, 1, 0, -1);
            with(x, 2, WASH, 0, 0, -1, 2, WASH, 1, 0, -1, 2, SOURCE, 0, 1, 0, 2, SOURCE, 1, 1, 0, 2, WASH, 1, 0, 1);
            k.is("at hour 1", x.sure(0, 1), 2 * ahead);
            int[] half = {0, 1, 0, ahead};
            int[] oneOfFour = {0, 1, 1, ahead};
            for (int doubt = 0; doubt <= 3; doubt++) {
                x.law(1, doubt);
                k.is("half, doubt " + doubt + ", ahead " + ahead, x.judged(0, 2), half[doubt]);
                k.is("one of four, doubt " + doubt + ", ahead " + ahead, x.judged(1, 2), oneOfFour[doubt]);
            }
        }
    }

    // ---- rivals

    /** Things 0 .. n - 1 are sources of unknowns of their own; the next was touched by some, and seen unclean. */
    private static KitchenTouch oneOf(int n, int... sets) {
        KitchenTouch x = vessels(n + sets.length);
        for (int t = 0; t < n; t++) with(x, 0, SOURCE, t, 1, t);
        for (int i = 0; i < sets.length; i++) {
            for (int t = 0; t < n; t++) {
                if ((sets[i] >> t & 1) == 1) with(x, 1, INSIDE, n + i, t, -1);
            }
            x.fact(n + i, 1, false);
        }
        return x;
    }

    private static void rivals() {
        k.sentence("RIVALS: the fewest THINGS (2 or 3) of which each is clean in some WAY that is LEFT and in none all are");
        k.is("one of none", oneOf(3).rivals(1), -9);
        k.is("one of one is unclean in all", oneOf(3, 1).rivals(1), -9);
        k.is("one of two", oneOf(3, 3).rivals(1), 3);
        k.is("one of two at hour 0, too", oneOf(3, 3).rivals(0), 3);
        k.is("one of three", oneOf(3, 7).rivals(1), 7);
        k.is("one of four are four", oneOf(4, 15).rivals(1), -9);
        k.is("two ahead of three of less bits", oneOf(5, 7, 24).rivals(1), 24);
        KitchenTouch x = oneOf(2, 3);
        x.fact(0, 0, false);
        k.is("who is never clean is none", x.rivals(1), -9);
        x = oneOf(2, 3);
        x.fact(0, 0, true);
        k.is("who is clean always is none, its rival never", x.rivals(1), -9);
        x = oneOf(3, 7);
        x.fact(1, 0, true);
        k.is("of three one is clean: two", x.rivals(1), 5);
        x = oneOf(3, 7);
        x.fact(1, 0, false);
        k.is("of three one is not: none", x.rivals(1), -9);
        k.sentence("of several the least as bits");
        k.is("two: 6 and 9", oneOf(4, 9, 6).rivals(1), 6);
        k.is("two: 12 and 17", oneOf(5, 17, 12).rivals(1), 12);
        k.is("two: 5 and 6", oneOf(4, 6, 5).rivals(1), 5);
        k.is("three: 14 and 19", oneOf(5, 19, 14).rivals(1), 14);
        k.is("three: 7 and 11", oneOf(4, 11, 7).rivals(1), 7);
        k.is("three: 13 and 14", oneOf(4, 14, 13).rivals(1), 13);
        k.sentence("RIVALS of THINGS 0 .. 11");
        x = with(vessels(12), 0, SOURCE, 10, 1, 0, 0, SOURCE, 11, 1, 10);
        k.is("the last two", x.rivals(0), 3 << 10);
        x = with(vessels(12), 0, SOURCE, 9, 1, 0, 0, SOURCE, 10, 1, 1, 0, SOURCE, 11, 1, 2);
        for (int t = 9; t <= 11; t++) with(x, 1, INSIDE, 0, t, -1);
        x.fact(0, 1, false);
        k.is("the last three", x.rivals(1), 7 << 9);
        k.sentence("RIVALS at an HOUR");
        x = with(vessels(2), 5, SOURCE, 0, 1, 0, 5, SOURCE, 1, 1, 10, 7, WASH, 1, 0, -1);
        int[] due = {-9, 3, 3, -9};
        for (int hour = 4; hour <= 7; hour++) k.is("hour " + hour, x.rivals(hour), due[hour - 4]);
        k.sentence("Promise 18: -9 none");
        k.is("no THINGS", new KitchenTouch().rivals(0), -9);
        k.is("one THING", with(vessels(1), 0, SOURCE, 0, 1, 0).rivals(0), -9);
        x = oneOf(2, 3);
        x.fact(0, 0, true);
        x.fact(0, 0, false);
        k.is("no WAY LEFT", x.rivals(1), -9);
    }

    // ---- the question

    private static void asks(String what, KitchenTouch x, int hour, int unknown, int number) {
        k.is(what + ", which", x.question(hour, 0), unknown);
        k.is(what + ", how many", x.question(hour, 1), number);
    }

    private static void question() {
        k.sentence("THE QUESTION: the UNKNOWN (named)");
        for (int u = 0; u <= 5; u++) {
            asks("one named, " + u, with(vessels(1), 0, WET, 0, 0, u), 0, u, 0);
            asks("named by 10 and it, " + u, with(vessels(1), 0, WET, 0, 0, 10 + u), 0, u, 0);
        }
        asks("the one that is not named would be as good", with(vessels(1), 0, SOURCE, 0, 1, 4), 0, 4, 0);
        KitchenTouch x = with(vessels(1), 0, SOURCE, 0, 1, 4);
        x.takeBack();
        asks("named no more", x, 0, -9, -9);
        k.sentence("the greater number of THINGS in DOUBT then (by both answers) is least");
        // If 0 is 1, all are unclean; if not, 1 .. 3 are in DOUBT by 1. Of 1: 0 .. 3 by 0, or 0 alone.
        x = with(vessels(4), 0, SOURCE, 0, 1, 0);
        for (int t = 1; t <= 3; t++) with(x, 0, SOURCE, t, 1, 0, 0, SOURCE, t, 1, 1);
        asks("the greater, not the lesser", x, 0, 0, 3);
        x = with(vessels(4), 0, SOURCE, 0, 1, 1);
        for (int t = 1; t <= 3; t++) with(x, 0, SOURCE, t, 1, 1, 0, SOURCE, t, 1, 0);
        asks("the other way about", x, 0, 1, 3);
        x = vessels(3);
        with(x, 0, SOURCE, 0, 1, 0, 0, WASH, 0, 0, 11, 0, SOURCE, 1, 1, 1, 0, SOURCE, 2, 1, 1);
        asks("asking 0 leaves 3 or 2, asking 1 leaves 1 or none", x, 0, 1, 1);
        k.sentence("of several the least");
        x = with(vessels(2), 0, SOURCE, 0, 1, 5, 0, SOURCE, 1, 1, 2);
        asks("2 and 5", x, 0, 2, 1);
        x = with(vessels(12), 0, WET, 0, 0, 3, 0, WET, 0, 0, 1);
        asks("none in DOUBT", x, 0, 1, 0);
        for (int t = 0; t < 12; t++) with(x, 0, SOURCE, t, 1, 1, 0, SOURCE, t, 1, 3);
        asks("twelve by both", x, 0, 1, 12);
        k.sentence("an answer by which no WAY is LEFT counts for nothing");
        x = with(vessels(3), 0, SOURCE, 0, 1, 0, 0, SOURCE, 1, 1, 1, 0, SOURCE, 2, 1, 2);
        asks("ahead of the FACT", x, 0, 0, 2);
        x.fact(0, 0, false);
        asks("0 is 1: asking that leaves both", x, 0, 1, 1);
        x.fact(1, 0, true);
        asks("0 is 1, 1 is 0", x, 0, 2, 0);
        x.fact(2, 0, true);
        asks("all are known", x, 0, 0, 0);
        k.sentence("THE QUESTION at an HOUR");
        x = with(vessels(3), 5, SOURCE, 0, 1, 1, 6, SOURCE, 1, 1, 0, 6, SOURCE, 2, 1, 0);
        asks("hour 4", x, 4, 0, 0);
        asks("hour 5", x, 5, 1, 0);
        asks("hour 6", x, 6, 0, 1);
        asks("hour 47", x, 47, 0, 1);
        k.sentence("Promise 19: -9 no UNKNOWN is named, no WAY is LEFT");
        asks("no THINGS", new KitchenTouch(), 0, -9, -9);
        asks("no UNKNOWN", with(vessels(1), 0, SOURCE, 0, 1, -1), 0, -9, -9);
        x.fact(0, 4, false);
        asks("no WAY LEFT", x, 6, -9, -9);
    }

    // ---- sources

    private static void sources() {
        k.sentence("SOURCES: EVENTS of KIND 9, by their order as told, the first 20 of them as bits");
        KitchenTouch x = vessels(2);
        for (int i = 0; i < 25; i++) {
            // Behind the first each is of an hour behind, and comes behind a washing: its own DEGREE.
            with(x, i, WASH, 0, 0, -1, i, SOURCE, 0, 1 + i % 4, -1);
            k.is("source " + i, x.sources(0, i), i < 20 ? 1 << i : 0);
        }
        for (int i = 0; i < 25; i++) k.is("behind all, hour " + i, x.sources(0, i), i < 20 ? 1 << i : 0);
        x = vessels(1);
        for (int i = 0; i < 20; i++) with(x, 40 - i, SOURCE, 0, 1, -1);
        k.is("as told, not by HOURS", x.sources(0, 47), 1 << 19);
        with(x, 0, SOURCE, 0, 1, -1);
        k.is("the 21st is none", x.sources(0, 47), 0);
        k.is("though it is unclean", x.state(0, 0, 47), 1);
        x.takeBack();
        k.is("the 20th again", x.sources(0, 47), 1 << 19);
        k.sentence("other EVENTS between them do not count");
        x = with(kitchen(VESSEL, PERSON), 0, WET, 0, 0, -1, 0, WASH, 0, 0, -1, 0, SOURCE, 0, 4, -1, 0, BREAK, 0, 0, -1,
            1, TOUCH, 0, 1, -1, 2, SOURCE, 1, 3, -1);
        k.is("the second SOURCE", x.sources(1, 2), 2);
        k.sentence("whether they were or not");
        x = with(vessels(1), 0, SOURCE, 0, 1, 0, 0, SOURCE, 0, 2, 10, 0, SOURCE, 0, 3, -1);
        k.is("of both ways", x.sources(0, 0), 3);
        x.fact(0, 0, false);
        k.is("a FACT of both", x.sources(0, 0), 3);
        x = with(vessels(1), 0, SOURCE, 0, 1, 0, 0, WASH, 0, 0, -1, 0, SOURCE, 0, 2, 10);
        x.fact(0, 0, false);
        k.is("the one that was not counts as the first", x.sources(0, 0), 2);
        k.sentence("in some WAY: in one of 64");
        x = vessels(1);
        for (int u = 0; u < 6; u++) with(x, 0, SOURCE, 0, 1, u);
        with(x, 0, SOURCE, 0, 1, -1);
        k.is("the last in WAY 0 alone", x.sources(0, 0), 127);
        x = vessels(1);
        for (int u = 0; u < 6; u++) with(x, 0, SOURCE, 0, 1, 10 + u);
        with(x, 0, SOURCE, 0, 1, -1);
        k.is("the last in WAY 63 alone", x.sources(0, 0), 127);
        x = with(vessels(1), 0, SOURCE, 0, 1, 0, 0, WASH, 0, 0, -1, 0, SOURCE, 0, 2, 10);
        x.fact(0, 0, false);
        k.sentence("0 without WAYS LEFT");
        x.fact(0, 0, true);
        k.is("none", x.sources(0, 0), 0);
        k.is("nobody goes ahead", x.sources(1, 0), -1);
        k.sentence("from which its DEGREE came in some WAY that is LEFT");
        x = with(vessels(1), 0, SOURCE, 0, 1, 5, 1, WASH, 0, 0, -1, 2, SOURCE, 0, 3, 14);
        k.is("ahead, clean in some", x.sources(0, 0), 1);
        k.is("clean in all", x.sources(0, 1), 0);
        k.is("behind, another", x.sources(0, 2), 2);
        x.fact(0, 2, true);
        k.is("clean in all that are LEFT", x.sources(0, 2), 0);
        k.is("at another hour", x.sources(0, 0), 1);
    }

    private static void givers() {
        k.sentence("each DEGREE comes from that of who gave it");
        KitchenTouch x = kitchen(GROUND, GROUND, VESSEL, PERSON, LIQUID);
        x.takes(PERSON, 4, false);
        with(x, 0, SOURCE, 0, 1, -1, 0, SOURCE, 1, 1, -1, 1, TOUCH, 1, 2, -1, 2, CARRY, 3, 2, -1, 3, POUR, 3, 4, -1);
        k.is("of the giver", x.sources(2, 1), 2);
        k.is("of the giver's giver", x.sources(3, 2), 2);
        k.is("and of its", x.sources(4, 3), 2);
        k.is("not of the other", x.sources(0, 3), 1);
        with(x, 4, TOUCH, 0, 3, -1);
        k.is("a better one is another's", x.sources(3, 4), 1);
        k.is("what it gave stays", x.sources(4, 4), 2);
        k.sentence("the one that it had stays, if it is as good");
        for (int kind : new int[] {TOUCH, INSIDE, CARRY}) {
            KitchenTouch y = with(kitchen(GROUND, GROUND, PERSON), 0, SOURCE, 0, 1, -1, 0, SOURCE, 1, 1, -1, 1, kind, 2, 1, -1, 2, kind, 2, 0, -1);
            k.is("given as good a one, kind " + kind, y.sources(2, 2), 2);
        }
        for (int b = 1; b <= 4; b++) {
            KitchenTouch y = with(kitchen(VESSEL), 0, SOURCE, 0, 3, -1, 1, SOURCE, 0, b, -1);
            k.is("3, then " + b, y.sources(0, 1), b < 3 ? 2 : 1);
            KitchenTouch z = with(kitchen(LIQUID, GROUND), 0, SOURCE, 0, b, -1, 0, SOURCE, 1, 3, -1, 1, POUR, 1, 0, -1);
            k.is("a LIQUID of " + b + " gets 1", z.sources(0, 1), b == 1 ? 1 : 2);
        }
        KitchenTouch y = with(kitchen(VESSEL, JOINED), 0, SOURCE, 0, 2, -1, 1, SOURCE, 1, 2, -1, 2, SOURCE, 1, 1, -1);
        k.is("its JOINED one's as good", y.sources(0, 1), 1);
        k.is("the JOINED one's own as good", y.sources(1, 1), 1);
        k.is("its JOINED one's better", y.sources(0, 2), 4);
        k.is("the JOINED one's own better", y.sources(1, 2), 4);
        k.sentence("a washed THING has none; what it has anew comes from who gave that");
        y = with(kitchen(VESSEL, GROUND), 0, SOURCE, 0, 1, -1, 0, SOURCE, 1, 1, -1, 1, WASH, 0, 0, -1, 2, TOUCH, 0, 1, -1);
        k.is("ahead", y.sources(0, 0), 1);
        k.is("washed", y.sources(0, 1), 0);
        k.is("anew", y.sources(0, 2), 2);
    }

    public static void main(String[] args) {
        left();
        sure();
        judged();
        judgedAhead();
        rivals();
        question();
        sources();
        givers();
        k.end();
    }
}
