import java.util.ArrayList;
import java.util.Arrays;
import java.util.List;
import java.util.regex.Matcher;
import java.util.regex.Pattern;

/** The document once more, as plainly as it goes: every way is played by itself, every question by trying all. */
final class PlainModel {
    record Event(int hour, int kind, int a, int b, int unknown) { }

    record Fact(int thing, int hour, boolean clean) { }

    record Step(int kind, int a, int b) { }

    /** One thing in one way. */
    static final class Thing {
        int kind;
        boolean wet;
        boolean broken;
        boolean apart;
        boolean washed;
        int degree;
        int source = -1;
    }

    static final class World implements Cloneable {
        List<int[]> things = new ArrayList<>(); // kind, wet, hidden
        int[][] takes = {{1, 2, 3, 1, 0, 1}, {1, 2, 3, 1, 0, 1}};
        int[] rules = {0, 1, 0};
        List<Event> events = new ArrayList<>();
        List<Fact> facts = new ArrayList<>();
        List<Step> steps = new ArrayList<>();

        World copy() {
            World w = new World();
            w.things = new ArrayList<>(things);
            w.takes = new int[][] {takes[0].clone(), takes[1].clone()};
            w.rules = rules.clone();
            w.events = new ArrayList<>(events);
            w.facts = new ArrayList<>(facts);
            w.steps = new ArrayList<>(steps);
            return w;
        }
    }

    World w = new World();
    World kept = null;
    StringBuilder text = new StringBuilder();
    int[] refusals = new int[7];

    private int no(int number) {
        refusals[-number]++;
        return number;
    }

    private boolean there(int t) {
        return t >= 0 && t < w.things.size();
    }

    // ---- the kitchen

    int thing(int kind, boolean wet, boolean hidden) {
        if (kind < 0 || kind > 5) return no(-2);
        if (kind == 5 && cannotJoin()) return no(-3);
        if (w.things.size() == 12) return no(-6);
        w.things.add(new int[] {kind, wet ? 1 : 0, hidden ? 1 : 0});
        return w.things.size() - 1;
    }

    private boolean cannotJoin() {
        return w.things.isEmpty() || w.things.get(w.things.size() - 1)[0] == 4;
    }

    int takes(int kind, int v, boolean other) {
        if (kind < 0 || kind > 5) return no(-2);
        if (v < 0) return no(-4);
        if (v > 4) return no(-6);
        int was = w.takes[other ? 1 : 0][kind];
        w.takes[other ? 1 : 0][kind] = v;
        return was;
    }

    int law(int what, int v) {
        if (what < 0 || what > 2) return no(-2);
        if (v < 0) return no(-4);
        if (what == 0 && v > 1 || v > 3) return no(-6);
        int was = w.rules[what];
        w.rules[what] = v;
        return was;
    }

    int event(int hour, int kind, int a, int b, int unknown) {
        if (kind < 0 || kind > 9) return no(-2);
        if (!there(a)) return no(-1);
        if (kind <= 4 && (!there(b) || a == b)) return no(-1);
        if (hour < 0) return no(-4);
        if (kind == 9 && b < 1) return no(-4);
        if (unknown < -1) return no(-4);
        if (hour > 47) return no(-6);
        if (kind == 9 && b > 4) return no(-6);
        if (unknown > 5 && unknown < 10 || unknown > 15) return no(-6);
        if (w.events.size() == 60) return no(-6);
        w.events.add(new Event(hour, kind, a, kind >= 5 && kind <= 8 ? -9 : b, unknown));
        return w.events.size() - 1;
    }

    int of(int event, int what) {
        if (event < 0 || event >= w.events.size()) return no(-1);
        Event e = w.events.get(event);
        switch (what) {
            case 0: return e.hour();
            case 1: return e.kind();
            case 2: return e.a();
            case 3: return e.b();
            case 4: return e.unknown();
            default: return no(-2);
        }
    }

    int takeBack() {
        if (w.events.isEmpty()) return no(-3);
        w.events.remove(w.events.size() - 1);
        return w.events.size();
    }

    int feed(int n, long bytes) {
        if (n < 1) return no(-4);
        if (n > 8 || text.length() + n > 80) return no(-6);
        for (int i = 0; i < n; i++) {
            text.append((char) (bytes & 255));
            bytes >>= 8;
        }
        return text.length();
    }

    // ---- houses: the place where a statement of this form can go on no longer, then what its numbers say

    private static final String NUMBER = "(?:0|[1-9][0-9]?)";
    private static final String[] FORMS = {
        "t[0-5]w?p?;",
        "k[0-5][0-4];",
        "e" + NUMBER + ",(?:[0-49]," + NUMBER + "," + NUMBER + "|[5-8]," + NUMBER + ")(?:[?!][0-5])?;"
    };

    int house() {
        String t = text.toString();
        text.setLength(0);
        int from = 0;
        int came = 0;
        while (from < t.length()) {
            int end = t.indexOf(';', from);
            int fault = faultOf(t, from);
            if (fault >= 0) return -20 - fault;
            come(t.substring(from, end));
            came++;
            from = end + 1;
        }
        return came;
    }

    private int faultOf(String t, int from) {
        char letter = t.charAt(from);
        if (letter == 't' && w.things.size() == 12 || letter == 'e' && w.events.size() == 60) return from;
        int whole = -1;
        int can = from;
        for (int to = from + 1; to <= t.length(); to++) {
            boolean stands = false;
            for (String form : FORMS) {
                Matcher m = Pattern.compile(form).matcher(t.substring(from, to));
                if (m.matches()) whole = to;
                if (whole == to || m.hitEnd()) stands = true;
            }
            if (!stands || whole == to) break;
            can = to;
        }
        int fault = whole >= 0 ? -1 : can;
        String said = t.substring(from, whole >= 0 ? whole : can);
        int meaning = meaningFault(said);
        return meaning >= 0 ? from + meaning : fault;
    }

    /** The place of the first number in a statement's beginning that may not be, or -1. */
    private int meaningFault(String said) {
        if (said.startsWith("t5") && cannotJoin()) return 1;
        if (!said.startsWith("e")) return -1;
        int[] starts = new int[4];
        String[] parts = said.substring(1).split("[,;?!]", -1);
        int at = 1;
        for (int i = 0; i < parts.length && i < 4; i++) {
            starts[i] = at;
            at += parts[i].length() + 1;
        }
        if (parts.length > 0 && !parts[0].isEmpty() && Integer.parseInt(parts[0]) > 47) return starts[0];
        if (parts.length > 2 && !parts[2].isEmpty() && !there(Integer.parseInt(parts[2]))) return starts[2];
        if (parts.length > 3 && !parts[3].isEmpty() && said.charAt(starts[3] - 1) == ',') {
            int kind = Integer.parseInt(parts[1]);
            int b = Integer.parseInt(parts[3]);
            if (kind == 9 ? b < 1 || b > 4 : !there(b) || b == Integer.parseInt(parts[2])) return starts[3];
        }
        return -1;
    }

    private void come(String said) {
        if (said.charAt(0) == 't') {
            w.things.add(new int[] {said.charAt(1) - '0', said.contains("w") ? 1 : 0, said.contains("p") ? 1 : 0});
        } else if (said.charAt(0) == 'k') {
            w.takes[0][said.charAt(1) - '0'] = said.charAt(2) - '0';
        } else {
            String[] halves = said.substring(1).split("[?!]");
            String[] numbers = halves[0].split(",");
            int unknown = -1;
            if (halves.length > 1) unknown = Integer.parseInt(halves[1]) + (said.contains("!") ? 10 : 0);
            w.events.add(new Event(Integer.parseInt(numbers[0]), Integer.parseInt(numbers[1]),
                Integer.parseInt(numbers[2]), numbers.length > 3 ? Integer.parseInt(numbers[3]) : -9, unknown));
        }
    }

    // ---- one way

    private final class Play {
        final int law;
        final List<Thing> things = new ArrayList<>();

        Play(int law) {
            this.law = law;
            for (int[] t : w.things) {
                Thing thing = new Thing();
                thing.kind = t[0];
                thing.wet = t[1] == 1 || t[0] == 2;
                things.add(thing);
            }
        }

        void until(int way, int lastHour, int washHour, int washSet) {
            for (int hour = 0; hour <= lastHour; hour++) {
                if (hour == 24) {
                    for (Thing t : things) {
                        if (t.washed) {
                            t.degree = 0;
                            t.washed = false;
                        }
                    }
                }
                int source = 0;
                for (Event e : w.events) {
                    if (e.hour() == hour && was(e, way)) done(e.kind(), e.a(), e.b(), source);
                    if (e.kind() == 9) source++;
                }
                if (hour == washHour) {
                    for (int t = 0; t < 8; t++) {
                        if ((washSet >> t & 1) == 1) done(5, t, -9, -1);
                    }
                }
            }
        }

        private boolean was(Event e, int way) {
            if (e.unknown() < 0) return true;
            if (e.unknown() < 10) return (way >> e.unknown() & 1) == 1;
            return (way >> (e.unknown() - 10) & 1) == 0;
        }

        void done(int kind, int a, int b, int source) {
            Thing one = things.get(a);
            boolean vessel = one.kind == 0 || one.kind == 5;
            if (kind <= 4) {
                Thing two = things.get(b);
                int hadOne = one.degree;
                int hadTwo = two.degree;
                int fromOne = one.source;
                int fromTwo = two.source;
                if (kind == 0 || kind == 1 || kind == 3) given(one, hadTwo, fromTwo);
                if (kind == 0 || kind == 4) given(two, hadOne, fromOne);
                if (kind == 4 && w.rules[0] == 1) given(one, hadTwo, fromTwo);
                if (kind == 2 && hadTwo == 1) given(one, hadTwo, fromTwo);
                if (kind == 2 && hadOne == 1) given(two, hadOne, fromOne);
            } else if (kind == 5 && vessel) {
                one.degree = 0;
            } else if (kind == 5 && one.kind == 3 && one.degree != 0) {
                one.washed = true;
            } else if (kind == 6 && vessel) {
                one.degree = 0;
                one.broken = true;
            } else if (kind == 7 && one.kind == 5) {
                one.apart = true;
            } else if (kind == 8) {
                one.wet = true;
            } else if (kind == 9) {
                one.washed = false;
                better(one, b, source);
            }
            joinAll();
        }

        private void given(Thing t, int d, int source) {
            if (d == 0 || d > w.takes[law][t.kind] || t.broken) return;
            if ((t.kind == 1 || t.kind == 2) && !t.wet) return;
            t.washed = false;
            better(t, t.kind == 2 ? 1 : Math.min(4, d + 1), source);
        }

        private boolean better(Thing t, int degree, int source) {
            if (t.degree != 0 && t.degree <= degree) return false;
            t.degree = degree;
            t.source = source;
            return true;
        }

        private void joinAll() {
            for (int i = 1; i < things.size(); i++) {
                Thing joined = things.get(i);
                Thing partner = things.get(i - 1);
                if (joined.kind != 5 || joined.apart || joined.broken || partner.broken) continue;
                if (joined.degree != 0 && better(partner, joined.degree, joined.source)) partner.washed = false;
                if (partner.degree != 0 && better(joined, partner.degree, partner.source)) joined.washed = false;
            }
        }
    }

    private Play played(int law, int way, int hour) {
        Play p = new Play(law);
        p.until(way, hour, -1, 0);
        return p;
    }

    private int degree(int law, int way, int thing, int hour) {
        return played(law, way, hour).things.get(thing).degree;
    }

    int state(int way, int thing, int hour) {
        if (!there(thing)) return no(-1);
        if (way < 0 || hour < 0) return no(-4);
        if (way > 63 || hour > 47) return no(-6);
        return degree(0, way, thing, hour);
    }

    int when(int way, int thing) {
        if (!there(thing)) return no(-1);
        if (way < 0) return no(-4);
        if (way > 63) return no(-6);
        for (int hour = 0; hour < 48; hour++) {
            if (degree(0, way, thing, hour) != 0) return hour;
        }
        return -9;
    }

    // ---- ways

    private int named() {
        int named = 0;
        for (Event e : w.events) {
            if (e.unknown() >= 0) named |= 1 << e.unknown() % 10;
        }
        return named;
    }

    private List<Integer> all() {
        List<Integer> ways = new ArrayList<>();
        for (int way = 0; way < 64; way++) {
            if ((way & ~named()) == 0) ways.add(way);
        }
        return ways;
    }

    private List<Integer> left(int law) {
        List<Integer> ways = new ArrayList<>();
        for (int way : all()) {
            boolean agrees = true;
            for (Fact f : w.facts) {
                if ((degree(law, way, f.thing(), f.hour()) == 0) != f.clean()) {
                    agrees = false;
                    break;
                }
            }
            if (agrees) ways.add(way);
        }
        return ways;
    }

    private int cleanWays(int law, List<Integer> ways, int thing, int hour) {
        int clean = 0;
        for (int way : ways) {
            if (degree(law, way, thing, hour) == 0) clean++;
        }
        return clean;
    }

    private int sureOf(int law, List<Integer> ways, int thing, int hour) {
        if (ways.isEmpty()) return -9;
        int clean = cleanWays(law, ways, thing, hour);
        return clean == ways.size() ? 2 : clean == 0 ? 0 : 1;
    }

    List<Integer> waysLeft() {
        return left(0);
    }

    int degree(int way, int thing, int hour) {
        return degree(0, way, thing, hour);
    }

    int ways(int what) {
        if (what != 0 && what != 1) return no(-2);
        return what == 0 ? all().size() : left(0).size();
    }

    int fact(int thing, int hour, boolean clean) {
        int r = thingHour(thing, hour);
        if (r != 0) return no(r);
        if (w.facts.size() == 12) return no(-6);
        w.facts.add(new Fact(thing, hour, clean));
        return w.facts.size();
    }

    int forget() {
        int had = w.facts.size();
        w.facts.clear();
        return had;
    }

    private int thingHour(int thing, int hour) {
        if (!there(thing)) return -1;
        if (hour < 0) return -4;
        if (hour > 47) return -6;
        return 0;
    }

    int sure(int thing, int hour) {
        int r = thingHour(thing, hour);
        return r != 0 ? no(r) : sureOf(0, left(0), thing, hour);
    }

    int many(int thing, int hour) {
        int r = thingHour(thing, hour);
        return r != 0 ? no(r) : cleanWays(0, left(0), thing, hour);
    }

    int judged(int thing, int hour) {
        int r = thingHour(thing, hour);
        return r != 0 ? no(r) : judge(left(0), thing, hour);
    }

    private int judge(List<Integer> left, int thing, int hour) {
        if (left.isEmpty()) return -9;
        if (hour < 0) return 1;
        int sure = sureOf(0, left, thing, hour);
        if (sure == 0) return 0;
        if (sure == 2) return 1;
        int rule = w.things.get(thing)[2] == 1 ? w.rules[2] : w.rules[1];
        if (rule == 3) return judge(left, thing, hour - 1);
        if (rule == 2) return cleanWays(0, left, thing, hour) * 2 > left.size() ? 1 : 0;
        return rule;
    }

    int rivals(int hour) {
        if (hour < 0) return no(-4);
        if (hour > 47) return no(-6);
        List<int[]> rows = new ArrayList<>();
        for (int way : left(0)) {
            int[] row = new int[w.things.size()];
            Play p = played(0, way, hour);
            for (int t = 0; t < row.length; t++) row[t] = p.things.get(t).degree;
            rows.add(row);
        }
        for (int size = 2; size <= 3; size++) {
            for (int set = 0; set < 1 << w.things.size(); set++) {
                if (Integer.bitCount(set) != size) continue;
                int someClean = 0;
                boolean allClean = false;
                for (int[] row : rows) {
                    int clean = 0;
                    for (int t = 0; t < row.length; t++) {
                        if (row[t] == 0) clean |= 1 << t;
                    }
                    someClean |= clean;
                    if ((set & ~clean) == 0) allClean = true;
                }
                if ((set & ~someClean) == 0 && !allClean) return set;
            }
        }
        return -9;
    }

    int question(int hour, int what) {
        if (what != 0 && what != 1) return no(-2);
        if (hour < 0) return no(-4);
        if (hour > 47) return no(-6);
        List<Integer> left = left(0);
        if (left.isEmpty()) return -9;
        int best = -9;
        int bestNumber = -9;
        for (int u = 5; u >= 0; u--) {
            if ((named() >> u & 1) == 0) continue;
            int worst = 0;
            for (int answer = 0; answer < 2; answer++) {
                List<Integer> ways = new ArrayList<>();
                for (int way : left) {
                    if ((way >> u & 1) == answer) ways.add(way);
                }
                int doubts = 0;
                for (int t = 0; t < w.things.size(); t++) {
                    if (sureOf(0, ways, t, hour) == 1) doubts++;
                }
                worst = Math.max(worst, doubts);
            }
            if (best < 0 || worst <= bestNumber) {
                best = u;
                bestNumber = worst;
            }
        }
        return what == 0 ? best : bestNumber;
    }

    int sources(int thing, int hour) {
        int r = thingHour(thing, hour);
        if (r != 0) return no(r);
        int bits = 0;
        for (int way : left(0)) {
            Thing t = played(0, way, hour).things.get(thing);
            if (t.degree != 0 && t.source < 20) bits |= 1 << t.source;
        }
        return bits;
    }

    // ---- plans

    int washing(int hour, int things) {
        if (hour < 0 || things < 0) return no(-4);
        if (things >= 1 << w.things.size()) return no(-1);
        if (hour > 47) return no(-6);
        List<Integer> left = left(0);
        if (left.isEmpty()) return -9;
        int best = -9;
        for (int set = 0; set < 1 << Math.min(8, w.things.size()); set++) {
            if (best >= 0 && Integer.bitCount(set) >= Integer.bitCount(best)) continue;
            boolean good = true;
            for (int way : left) {
                Play p = new Play(0);
                p.until(way, 47, hour, set);
                if (!clean(p, things)) {
                    good = false;
                    break;
                }
            }
            if (good) best = set;
        }
        return best;
    }

    private static boolean clean(Play p, int things) {
        for (int t = 0; t < p.things.size(); t++) {
            if ((things >> t & 1) == 1 && p.things.get(t).degree != 0) return false;
        }
        return true;
    }

    int step(int kind, int a, int b) {
        if (kind < 0 || kind > 4) return no(-2);
        if (!there(a) || !there(b) || a == b) return no(-1);
        if (w.steps.size() == 5) return no(-6);
        w.steps.add(new Step(kind, a, b));
        return w.steps.size();
    }

    int clear() {
        int had = w.steps.size();
        w.steps.clear();
        return had;
    }

    int cooking(int things) {
        if (things < 0) return no(-4);
        if (things >= 1 << w.things.size()) return no(-1);
        List<Integer> left = left(0);
        if (left.isEmpty()) return -9;
        List<int[]> orders = new ArrayList<>();
        orders(new int[0], orders);
        for (int[] order : orders) {
            boolean good = true;
            for (int way : left) {
                Play p = played(0, way, 47);
                for (int s : order) {
                    Step step = w.steps.get(s);
                    p.done(step.kind(), step.a(), step.b(), -1);
                    good &= clean(p, things);
                }
            }
            if (good) {
                int code = 0;
                for (int i = order.length - 1; i >= 0; i--) code = code * 6 + order[i] + 1;
                return code;
            }
        }
        return -9;
    }

    private void orders(int[] begun, List<int[]> whole) {
        if (begun.length == w.steps.size()) {
            whole.add(begun);
            return;
        }
        for (int s = 0; s < w.steps.size(); s++) {
            boolean used = false;
            for (int other : begun) used |= other == s;
            if (!used) {
                int[] longer = Arrays.copyOf(begun, begun.length + 1);
                longer[begun.length] = s;
                orders(longer, whole);
            }
        }
    }

    int beside(int hour) {
        if (hour < 0) return no(-4);
        if (hour > 47) return no(-6);
        List<Integer> left = left(0);
        List<Integer> otherLeft = left(1);
        int bits = 0;
        for (int t = 0; t < w.things.size(); t++) {
            if (sureOf(0, left, t, hour) != sureOf(1, otherLeft, t, hour)) bits |= 1 << t;
        }
        return bits;
    }

    int image() {
        kept = w.copy();
        return w.events.size();
    }

    int restore() {
        if (kept == null) return no(-3);
        w = kept.copy();
        return w.events.size();
    }

    int count(int what) {
        if (what == 0) return w.things.size();
        if (what == 1) return w.events.size();
        if (what == 2) return Integer.bitCount(named());
        if (what == 3) return w.facts.size();
        if (what == 4) return w.steps.size();
        if (what == 5) return text.length();
        if (what >= 11 && what <= 16) return refusals[what - 10];
        return -9;
    }
}
