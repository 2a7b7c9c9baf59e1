import java.util.ArrayList;
import java.util.List;
import java.util.function.Supplier;

/** What the tests of edges share: sentences of the document, rows of calls with the answer that is due, looks at all. */
final class EdgeKit {
    static final int VESSEL = 0, FOOD = 1, LIQUID = 2, PERSON = 3, GROUND = 4, JOINED = 5;
    static final int TOUCH = 0, INSIDE = 1, ROOF = 2, CARRY = 3, POUR = 4;
    static final int WASH = 5, BREAK = 6, APART = 7, WET = 8, SOURCE = 9;
    static final int MIN = Integer.MIN_VALUE, MAX = Integer.MAX_VALUE;
    private static final int LOOKS = 5;

    interface Call {
        int on(KitchenTouch x, int[] a);
    }

    private final String name;
    private String words = "";
    private int sentences = 0;
    private int asked = 0;
    private int wrong = 0;

    EdgeKit(String name) {
        this.name = name;
    }

    /** What is asked from here on is asked for this sentence of the document. */
    void sentence(String told) {
        words = told;
        sentences++;
    }

    void is(String what, long got, long want) {
        asked++;
        if (got != want) {
            wrong++;
            System.out.println("\"" + words + "\" " + what + ": answered " + got + ", due is " + want);
        }
    }

    void end() {
        System.out.println(name + ": " + sentences + " sentences, " + asked + " answers, " + wrong + " wrong");
        if (wrong != 0) System.exit(1);
    }

    // ---- kitchens

    /** A kitchen with things of these kinds, all dry and in public. */
    static KitchenTouch kitchen(int... kinds) {
        KitchenTouch x = new KitchenTouch();
        for (int kind : kinds) x.thing(kind, false, false);
        return x;
    }

    /** Five numbers each: HOUR, KIND, a, b, unknown. */
    static KitchenTouch with(KitchenTouch x, int... events) {
        for (int i = 0; i + 4 < events.length; i += 5) {
            int number = x.event(events[i], events[i + 1], events[i + 2], events[i + 3], events[i + 4]);
            if (number < 0) throw new IllegalStateException("an event of a setting was refused: " + number);
        }
        return x;
    }

    static KitchenTouch feed(KitchenTouch x, String text) {
        for (int at = 0; at < text.length(); at += 8) {
            int n = Math.min(8, text.length() - at);
            long bytes = 0;
            for (int i = 0; i < n; i++) bytes |= (long) text.charAt(at + i) << 8 * i;
            x.feed(n, bytes);
        }
        return x;
    }

    /** Something of all: six things (the last is GROUND), events, unknowns, laws, facts, steps, a text, an image. */
    static KitchenTouch rich() {
        KitchenTouch x = new KitchenTouch();
        x.thing(VESSEL, false, false);
        x.thing(JOINED, false, true);
        x.thing(FOOD, true, false);
        x.thing(LIQUID, false, true);
        x.thing(PERSON, false, false);
        x.takes(PERSON, 3, false);
        with(x, 1, SOURCE, 0, 1, 0, 2, TOUCH, 0, 4, -1, 3, WASH, 4, 0, 11);
        x.law(1, 2);
        x.fact(2, 0, true);
        x.step(CARRY, 4, 0);
        x.image();
        x.thing(GROUND, true, true);
        x.takes(FOOD, 3, false);
        x.takes(FOOD, 0, true);
        x.takes(VESSEL, 0, true);
        x.law(0, 1);
        x.law(1, 3);
        x.law(2, 2);
        with(x, 24, TOUCH, 0, 2, -1, 25, BREAK, 1, 0, 13, 47, SOURCE, 3, 2, 2);
        x.fact(4, 24, true);
        x.step(POUR, 3, 2);
        return feed(x, "t0");
    }

    // ---- rows: the answer that is due, then what the call is told

    private static String told(String call, int[] row) {
        StringBuilder said = new StringBuilder(call).append('(');
        for (int i = 1; i < row.length; i++) said.append(i > 1 ? ", " : "").append(row[i]);
        return said.append(')').toString();
    }

    private static int[] arguments(int[] row) {
        int[] a = new int[row.length - 1];
        System.arraycopy(row, 1, a, 0, a.length);
        return a;
    }

    private static int[] refusals(KitchenTouch x) {
        int[] counts = new int[7];
        for (int i = 1; i <= 6; i++) counts[i] = x.count(10 + i);
        return counts;
    }

    /** Each row on a setting of its own: it is answered, and no refusal is counted. */
    void answered(Supplier<KitchenTouch> setting, String call, Call c, int[]... rows) {
        for (int[] row : rows) {
            KitchenTouch x = setting.get();
            int[] before = refusals(x);
            is(told(call, row), c.on(x, arguments(row)), row[0]);
            int[] after = refusals(x);
            for (int i = 1; i <= 6; i++) is(told(call, row) + " counts no refusal -" + i, after[i], before[i]);
        }
    }

    /** Each row on a setting of its own: its refusal is answered and counted, and nothing else has changed. */
    void refused(Supplier<KitchenTouch> setting, String call, Call c, int[]... rows) {
        for (int[] row : rows) {
            KitchenTouch x = setting.get();
            int[] before = refusals(x);
            is(told(call, row), c.on(x, arguments(row)), row[0]);
            int[] after = refusals(x);
            for (int i = 1; i <= 6; i++) {
                is("refusals -" + i + " behind " + told(call, row), after[i], before[i] + (i == -row[0] ? 1 : 0));
            }
            sameLooks(setting, told(call, row), c, arguments(row));
        }
    }

    /** Each row on a setting of its own: it is answered, and nothing has changed. */
    void asked(Supplier<KitchenTouch> setting, String call, Call c, int[]... rows) {
        answered(setting, call, c, rows);
        for (int[] row : rows) sameLooks(setting, told(call, row), c, arguments(row));
    }

    private void sameLooks(Supplier<KitchenTouch> setting, String call, Call c, int[] arguments) {
        for (int part = 0; part < LOOKS; part++) {
            KitchenTouch called = setting.get();
            c.on(called, arguments);
            List<Integer> due = look(part, setting.get());
            List<Integer> got = look(part, called);
            is("look " + part + " behind " + call, firstOther(got, due), -1);
        }
    }

    private static int firstOther(List<Integer> one, List<Integer> two) {
        for (int i = 0; i < Math.min(one.size(), two.size()); i++) {
            if (!one.get(i).equals(two.get(i))) return i;
        }
        return one.size() == two.size() ? -1 : Math.min(one.size(), two.size());
    }

    // ---- looks: what a kitchen shows without its refusals, in parts that have room in its 512 calls

    private static List<Integer> look(int part, KitchenTouch x) {
        List<Integer> seen = new ArrayList<>();
        if (part == 0) lookAtNumbers(x, seen);
        if (part == 1) lookAtDoubts(x, seen);
        if (part == 2) lookAtStates(x, seen);
        if (part == 3) {
            seen.add(x.house());
            lookAtCounts(x, seen);
            lookAtDoubts(x, seen);
        }
        if (part == 4) {
            seen.add(x.restore());
            lookAtNumbers(x, seen);
        }
        return seen;
    }

    private static void lookAtCounts(KitchenTouch x, List<Integer> seen) {
        for (int what = 0; what <= 5; what++) seen.add(x.count(what));
        seen.add(x.ways(0));
        seen.add(x.ways(1));
    }

    private static void lookAtNumbers(KitchenTouch x, List<Integer> seen) {
        lookAtCounts(x, seen);
        int events = x.count(1);
        for (int e = 0; e < events; e++) {
            for (int what = 0; what < 5; what++) seen.add(x.of(e, what));
        }
        int things = x.count(0);
        for (int thing = 0; thing < things; thing++) seen.add(x.judged(thing, 30));
        for (int kind = 0; kind < 6; kind++) {
            seen.add(x.takes(kind, 0, false));
            seen.add(x.takes(kind, 0, true));
        }
        for (int what = 0; what < 3; what++) seen.add(x.law(what, 0));
    }

    private static void lookAtDoubts(KitchenTouch x, List<Integer> seen) {
        int things = x.count(0);
        for (int thing = 0; thing < things; thing++) {
            seen.add(x.when(0, thing));
            seen.add(x.when(21, thing));
            for (int hour = 1; hour < 48; hour += 23) {
                seen.add(x.sure(thing, hour));
                seen.add(x.many(thing, hour));
                seen.add(x.judged(thing, hour));
                seen.add(x.sources(thing, hour));
            }
        }
        for (int hour = 2; hour < 48; hour += 22) {
            seen.add(x.rivals(hour));
            seen.add(x.question(hour, 0));
            seen.add(x.question(hour, 1));
            seen.add(x.beside(hour));
            seen.add(x.washing(hour, (1 << things) - 1));
        }
        seen.add(x.cooking(0));
        for (int thing = 0; thing < things; thing++) seen.add(x.cooking(1 << thing));
    }

    private static void lookAtStates(KitchenTouch x, List<Integer> seen) {
        int things = x.count(0);
        for (int thing = 0; thing < things; thing++) {
            for (int way = 0; way < 64; way += 21) {
                for (int hour : new int[] {0, 1, 3, 23, 24, 25, 47}) seen.add(x.state(way, thing, hour));
            }
        }
    }
}
