import java.util.ArrayList;
import java.util.List;
import java.util.Random;

/** Long runs of calls by chance (of told seeds), each answer held against the plain model's. */
public final class ModelTest {
    private static int wrong = 0;
    private static final int RUNS = 1500;
    /** Calls of a run; of a long one, which goes on to an object's last call; an act takes a hundred at most. */
    private static final int SHORT = 160, LAST = 512, ACT = 100;

    private final Random random;
    private final KitchenTouch program = new KitchenTouch();
    private final PlainModel model = new PlainModel();
    private final List<String> calls = new ArrayList<>();
    private int made = 0;
    private final long seed;
    // What this run is like.
    private final int firstHour;
    private final int hourSpan;
    private final int unknowns;
    private final int knownOfTen;
    private final int[] kinds;
    private final int mostThings;
    private final boolean wild;
    private final boolean cooks;

    private ModelTest(long seed) {
        this.seed = seed;
        random = new Random(seed * 7919 + 13);
        hourSpan = 1 + random.nextInt(random.nextBoolean() ? 6 : 48);
        firstHour = random.nextInt(3) == 0 ? Math.max(0, Math.min(48 - hourSpan, 24 - random.nextInt(4)))
            : random.nextInt(48 - hourSpan + 1);
        unknowns = 1 + random.nextInt(6);
        knownOfTen = random.nextInt(11);
        mostThings = 2 + random.nextInt(11);
        wild = random.nextInt(4) == 0;
        cooks = random.nextInt(4) == 0;
        int[][] mixes = {{0, 1, 2, 3, 4, 5}, {0, 5, 5, 3, 5}, {3, 5, 0, 5}, {0, 2, 1}, {3, 3, 5, 0, 2}, {1, 1, 2, 5, 0, 4}};
        kinds = mixes[random.nextInt(mixes.length)];
    }

    private void same(String call, int got, int want) {
        calls.add(call + " -> " + got);
        made++;
        if (got != want) {
            wrong++;
            if (wrong < 4) {
                System.out.println("seed " + seed + ":");
                for (String c : calls) System.out.println("  " + c);
                System.out.println("  due is " + want);
            }
        }
    }

    private int thing() {
        int n = model.w.things.size();
        int r = random.nextInt(wild ? 12 : 60);
        if (r == 0) return n;
        if (r == 1) return -1;
        return n == 0 ? 0 : random.nextInt(n);
    }

    private int hour() {
        int r = random.nextInt(wild ? 14 : 80);
        if (r == 0) return 48;
        if (r == 1) return -1;
        if (r < 4) return random.nextInt(48);
        return firstHour + random.nextInt(hourSpan);
    }

    private int unknown() {
        int r = random.nextInt(wild ? 20 : 120);
        if (r < 6) return new int[] {-2, 6, 9, 16, 7, 100}[r];
        if (random.nextInt(10) < knownOfTen) return -1;
        int u = random.nextInt(unknowns);
        return random.nextInt(3) == 0 ? 10 + u : u;
    }

    private int things() {
        int n = model.w.things.size();
        int r = random.nextInt(wild ? 12 : 60);
        if (r == 0) return 1 << n;
        if (r == 1) return -1 - random.nextInt(3);
        int set = random.nextInt(1 << n);
        if (n > 0 && random.nextBoolean()) return 1 << random.nextInt(n);
        return random.nextBoolean() ? set : set & random.nextInt(1 << n);
    }

    private int way() {
        int r = random.nextInt(wild ? 12 : 60);
        return r == 0 ? 64 : r == 1 ? -1 : random.nextInt(64);
    }

    private void addThing() {
        int kind = random.nextInt(30) == 0 ? random.nextInt(9) - 1 : kinds[random.nextInt(kinds.length)];
        boolean wet = random.nextInt(3) > 0;
        boolean hidden = random.nextBoolean();
        same("thing(" + kind + "," + wet + "," + hidden + ")", program.thing(kind, wet, hidden), model.thing(kind, wet, hidden));
    }

    private void addEvent() {
        int kind = random.nextInt(40) == 0 ? random.nextInt(13) - 1 : random.nextInt(3) == 0 ? 9 : random.nextInt(10);
        int b = kind == 9 ? (random.nextInt(20) == 0 ? random.nextInt(7) - 1 : 1 + random.nextInt(4)) : thing();
        int h = hour();
        int a = thing();
        int u = unknown();
        same("event(" + h + "," + kind + "," + a + "," + b + "," + u + ")",
            program.event(h, kind, a, b, u), model.event(h, kind, a, b, u));
    }

    private void addFact() {
        int t = thing();
        int h = hour();
        boolean clean = random.nextInt(3) > 0;
        List<Integer> left = model.waysLeft();
        // Mostly what was seen is so in some way, that the ways may not all be gone.
        if (random.nextInt(10) > 0 && !left.isEmpty() && t >= 0 && t < model.w.things.size() && h >= 0 && h < 48) {
            clean = model.degree(left.get(random.nextInt(left.size())), t, h) == 0;
        }
        same("fact(" + t + "," + h + "," + clean + ")", program.fact(t, h, clean), model.fact(t, h, clean));
    }

    private void addStep() {
        int kind = random.nextInt(20) == 0 ? random.nextInt(8) - 1 : random.nextInt(5);
        int a = thing();
        int b = thing();
        same("step(" + kind + "," + a + "," + b + ")", program.step(kind, a, b), model.step(kind, a, b));
    }

    private String statement() {
        int n = Math.max(1, model.w.things.size());
        switch (random.nextInt(6)) {
            case 0:
                return "t" + kinds[random.nextInt(kinds.length)] + (random.nextBoolean() ? "w" : "") + (random.nextBoolean() ? "p" : "") + ";";
            case 1:
                return "k" + random.nextInt(6) + random.nextInt(5) + ";";
            default:
                int kind = random.nextInt(10);
                String e = "e" + (firstHour + random.nextInt(hourSpan)) + "," + kind + "," + random.nextInt(n);
                if (kind == 9) e += "," + (1 + random.nextInt(4));
                else if (kind < 5) e += "," + random.nextInt(n);
                int u = random.nextInt(4);
                if (u == 0) e += "?" + random.nextInt(6);
                if (u == 1) e += "!" + random.nextInt(6);
                return e + ";";
        }
    }

    private void readHouse() {
        StringBuilder text = new StringBuilder();
        int statements = random.nextInt(8);
        for (int i = 0; i < statements; i++) text.append(statement());
        int harm = random.nextInt(3);
        for (int i = 0; i < harm && text.length() > 0; i++) {
            int at = random.nextInt(text.length());
            String signs = "0123456789,;?!twpek5x\u00e9";
            char sign = signs.charAt(random.nextInt(signs.length()));
            int how = random.nextInt(4);
            if (how == 0) text.setCharAt(at, sign);
            if (how == 1) text.insert(at, sign);
            if (how == 2) text.deleteCharAt(at);
            if (how == 3) text.setLength(at);
        }
        calls.add("text " + text);
        for (int at = 0; at < text.length();) {
            int n = Math.min(text.length() - at, 1 + random.nextInt(8));
            long bytes = random.nextLong();
            if (n < 8) bytes <<= 8 * n;
            else bytes = 0;
            for (int i = 0; i < n; i++) bytes |= (long) text.charAt(at + i) << 8 * i;
            same("feed(" + n + "," + bytes + ")", program.feed(n, bytes), model.feed(n, bytes));
            at += n;
        }
        if (random.nextInt(8) == 0) {
            int n = random.nextInt(12) - 1;
            same("feed(" + n + ",0)", program.feed(n, 0), model.feed(n, 0));
        }
        same("count(5)", program.count(5), model.count(5));
        same("house()", program.house(), model.house());
    }

    private void askSure() {
        int t = thing();
        int h = hour();
        same("sure(" + t + "," + h + ")", program.sure(t, h), model.sure(t, h));
        same("many(" + t + "," + h + ")", program.many(t, h), model.many(t, h));
        same("judged(" + t + "," + h + ")", program.judged(t, h), model.judged(t, h));
        same("sources(" + t + "," + h + ")", program.sources(t, h), model.sources(t, h));
    }

    private void askState() {
        int t = thing();
        int h = hour();
        int way = way();
        same("state(" + way + "," + t + "," + h + ")", program.state(way, t, h), model.state(way, t, h));
        same("when(" + way + "," + t + ")", program.when(way, t), model.when(way, t));
    }

    private void askCooking() {
        if (model.w.steps.size() < 2 + random.nextInt(4)) addStep();
        for (int i = 0; i < 2; i++) {
            int told = things();
            same("cooking(" + told + ")", program.cooking(told), model.cooking(told));
        }
        if (random.nextInt(10) == 0) same("clear()", program.clear(), model.clear());
    }

    private void askAll() {
        int h = hour();
        switch (random.nextInt(6)) {
            case 0:
                same("rivals(" + h + ")", program.rivals(h), model.rivals(h));
                break;
            case 1:
                same("question(" + h + ",0)", program.question(h, 0), model.question(h, 0));
                same("question(" + h + ",1)", program.question(h, 1), model.question(h, 1));
                break;
            case 2:
                same("beside(" + h + ")", program.beside(h), model.beside(h));
                break;
            case 3:
                int things = things();
                if (random.nextBoolean()) h = Math.min(47, Math.max(h, firstHour + hourSpan));
                same("washing(" + h + "," + things + ")", program.washing(h, things), model.washing(h, things));
                break;
            case 4:
                int told = things();
                same("cooking(" + told + ")", program.cooking(told), model.cooking(told));
                break;
            default:
                int what = random.nextInt(20) - 1;
                same("count(" + what + ")", program.count(what), model.count(what));
                int q = random.nextInt(4) - 1;
                same("ways(" + q + ")", program.ways(q), model.ways(q));
                break;
        }
    }

    private void change() {
        int r = random.nextInt(16);
        int v = random.nextInt(7) - 1;
        int kind = random.nextInt(8) - 1;
        boolean other = random.nextBoolean();
        if (r < 4) same("takes(" + kind + "," + v + "," + other + ")", program.takes(kind, v, other), model.takes(kind, v, other));
        else if (r < 8) {
            int what = random.nextInt(5) - 1;
            same("law(" + what + "," + v + ")", program.law(what, v), model.law(what, v));
        } else if (r < 10) same("takeBack()", program.takeBack(), model.takeBack());
        else if (r == 10) same("forget()", program.forget(), model.forget());
        else if (r == 11) same("clear()", program.clear(), model.clear());
        else if (r == 12) same("image()", program.image(), model.image());
        else if (r == 13 && random.nextBoolean()) same("restore()", program.restore(), model.restore());
        else {
            int e = random.nextInt(model.w.events.size() + 2) - 1;
            int what = random.nextInt(7) - 1;
            same("of(" + e + "," + what + ")", program.of(e, what), model.of(e, what));
        }
    }

    private void run() {
        int begin = random.nextInt(mostThings + 1);
        for (int i = 0; i < begin; i++) addThing();
        for (int i = random.nextInt(4); i > 0; i--) {
            int kind = random.nextInt(6);
            int v = random.nextInt(5);
            boolean other = random.nextBoolean();
            same("takes(" + kind + "," + v + "," + other + ")", program.takes(kind, v, other), model.takes(kind, v, other));
        }
        int events = random.nextInt(random.nextInt(10) == 0 ? 64 : cooks ? 6 : 16);
        for (int i = 0; i < events; i++) addEvent();
        boolean goesOn = seed % 20 == 0;
        while (made < (goesOn ? LAST - ACT : SHORT)) {
            int r = random.nextInt(20);
            if (r == 0 && (model.w.things.size() < mostThings || wild)) addThing();
            else if (r < 5) addEvent();
            else if (r < 6) addFact();
            else if (r < 7) addStep();
            else if (r < 8 && random.nextInt(3) == 0) readHouse();
            else if (r < 10) change();
            else if (r < 14 && cooks) askCooking();
            else if (r < 13) askSure();
            else if (r < 15) askState();
            else askAll();
            if (random.nextInt(4) > 0 && !model.w.facts.isEmpty() && model.waysLeft().isEmpty()) {
                same("forget()", program.forget(), model.forget());
            }
        }
        for (int what = -1; what < 18; what++) same("count(" + what + ")", program.count(what), model.count(what));
        while (goesOn && made < LAST) {
            int t = thing();
            int h = hour();
            same("many(" + t + "," + h + ")", program.many(t, h), model.many(t, h));
        }
    }

    public static void main(String[] args) {
        int runs = args.length > 0 ? Integer.parseInt(args[0]) : RUNS;
        long first = args.length > 1 ? Long.parseLong(args[1]) : 0;
        for (long seed = first; seed < first + runs; seed++) new ModelTest(seed).run();
        System.out.println("ModelTest: " + runs + " runs, " + wrong + " wrong answers");
        if (wrong != 0) System.exit(1);
    }
}
