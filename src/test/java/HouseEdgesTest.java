import java.util.function.Supplier;

/** The document's Terms IV: what a HOUSE may be, byte by byte, and where its FAULT is. */
public final class HouseEdgesTest {
    private static final EdgeKit k = new EdgeKit("HouseEdgesTest");
    private static final int VESSEL = EdgeKit.VESSEL, GROUND = EdgeKit.GROUND, WET = EdgeKit.WET;

    private static KitchenTouch vessels(int number) {
        KitchenTouch x = new KitchenTouch();
        for (int t = 0; t < number; t++) x.thing(VESSEL, false, false);
        return x;
    }

    private static KitchenTouch eventsTold(int number) {
        KitchenTouch x = vessels(2);
        for (int e = 0; e < number; e++) EdgeKit.with(x, 0, WET, 0, 0, -1);
        return x;
    }

    /** Reads a text that has no FAULT; how many STATEMENTS, THINGS and EVENTS came. */
    private static KitchenTouch whole(Supplier<KitchenTouch> setting, String text, int came, int things, int events) {
        KitchenTouch x = setting.get();
        int hadThings = x.count(0);
        int hadEvents = x.count(1);
        EdgeKit.feed(x, text);
        k.is(text + ", bytes", x.count(5), text.length());
        k.is(text, x.house(), came);
        k.is(text + ", THINGS", x.count(0), hadThings + things);
        k.is(text + ", EVENTS", x.count(1), hadEvents + events);
        readThen(x, text);
        return x;
    }

    /** Reads a text with a FAULT at a place, ahead of which nothing is whole: nothing came, nothing is counted. */
    private static void fault(Supplier<KitchenTouch> setting, String text, int place) {
        KitchenTouch x = EdgeKit.feed(setting.get(), text);
        KitchenTouch untold = setting.get();
        k.is(text, x.house(), -20 - place);
        for (int what = 0; what <= 4; what++) k.is(text + ", count(" + what + ")", x.count(what), untold.count(what));
        readThen(x, text);
        for (int kind = 0; kind < 6; kind++) {
            k.is(text + ", takes", x.takes(kind, 0, false), untold.takes(kind, 0, false));
            k.is(text + ", takes by the other law", x.takes(kind, 0, true), untold.takes(kind, 0, true));
        }
    }

    private static void readThen(KitchenTouch x, String text) {
        k.is(text + ", no TEXT then", x.count(5), 0);
        for (int i = 1; i <= 6; i++) k.is(text + ", no refusal -" + i, x.count(10 + i), 0);
        k.is(text + ", the empty TEXT is a HOUSE", x.house(), 0);
    }

    private static String times(int number, String statement) {
        StringBuilder text = new StringBuilder();
        for (int i = 0; i < number; i++) text.append(statement);
        return text.toString();
    }

    // ---- the text

    private static void texts() {
        k.sentence("A HOUSE is a TEXT (80 bytes at most)");
        whole(KitchenTouch::new, "", 0, 0, 0);
        whole(KitchenTouch::new, times(20, "k31;"), 20, 0, 0);
        whole(() -> vessels(2), times(11, "e0,8,1;") + "t1;", 12, 1, 11);
        fault(KitchenTouch::new, "t0wp" + times(76, "x"), 4);
        KitchenTouch x = EdgeKit.feed(new KitchenTouch(), times(19, "k40;") + "k40");
        k.is("79 bytes, the end", x.house(), -20 - 79);
        x = EdgeKit.feed(new KitchenTouch(), times(19, "k40;") + "k40;");
        k.is("80 bytes", x.house(), 20);
        x = EdgeKit.feed(new KitchenTouch(), times(19, "k40;") + "k405");
        k.is("80 bytes, the last byte", x.house(), -20 - 79);
        x = EdgeKit.feed(vessels(1), times(18, "k40;") + "e0,5,0?0");
        k.is("80 bytes, the end", x.house(), -20 - 80);
        x = EdgeKit.feed(new KitchenTouch(), times(20, "k41;"));
        k.is("no 81st byte", x.feed(1, ';'), -6);
        k.is("eighty", x.house(), 20);
        k.sentence("n (1 .. 8) bytes come to the TEXT, the lowest first");
        x = new KitchenTouch();
        long bytes = 0x3B30743B70773274L; // t2wp;t0;
        k.is("eight", x.feed(8, bytes), 8);
        k.is("two THINGS", x.house(), 2);
        for (int n = 1; n <= 8; n++) {
            KitchenTouch y = new KitchenTouch();
            k.is("of eight " + n, y.feed(n, bytes), n);
            k.is("the rest does not come, " + n, y.house(), n == 5 ? 1 : n == 8 ? 2 : -20 - n);
        }
        x.feed(1, -1L);
        k.is("a byte of 255", x.house(), -20);
        x.feed(1, 0L);
        k.is("a byte of 0", x.house(), -20);
        x.feed(1, 't' + 256L);
        x.feed(1, '0' - 256L);
        x.feed(1, ';' + (1L << 40));
        k.is("only the lowest counts", x.house(), 1);
        k.sentence("Promise 9: how many STATEMENTS came; nothing is counted; the TEXT has none then");
        x = EdgeKit.feed(new KitchenTouch(), "t0;t1;e0,0,0,1;k00;");
        k.is("four", x.house(), 4);
        k.is("none then", x.house(), 0);
        EdgeKit.feed(x, "t0;z");
        k.is("a FAULT", x.house(), -23);
        k.is("none behind a FAULT", x.house(), 0);
        for (int i = 1; i <= 6; i++) k.is("nothing counted", x.count(10 + i), 0);
    }

    private static void letters() {
        k.sentence("STATEMENTS: \"t\", \"e\", \"k\"");
        String signs = "sudfjlTEK;,?!w0x p9\u0000\u007f\u0080\u00ff\u00f4\u00e5";
        for (int i = 0; i < signs.length(); i++) {
            fault(() -> vessels(1), signs.charAt(i) + "0;", 0);
            fault(() -> vessels(1), signs.charAt(i) + "", 0);
        }
        k.sentence("each with \";\" behind");
        fault(KitchenTouch::new, "t0,", 2);
        fault(KitchenTouch::new, "t0:", 2);
        fault(KitchenTouch::new, "t0t1;", 2);
        fault(KitchenTouch::new, "k00k", 3);
        fault(() -> vessels(2), "e0,8,0e", 6);
        fault(() -> vessels(2), "e0,0,0,1e", 8);
        fault(KitchenTouch::new, ";", 0);
        k.sentence("the end, if something lacks");
        String[] all = {"t0;", "t3w;", "t1p;", "t2wp;", "k54;", "e0,8,1;", "e47,6,0?0;", "e10,9,1,4!5;", "e9,4,1,0?3;"};
        for (String text : all) {
            for (int bytes = 1; bytes < text.length(); bytes++) fault(() -> vessels(2), text.substring(0, bytes), bytes);
            whole(() -> vessels(2), text, 1, text.charAt(0) == 't' ? 1 : 0, text.charAt(0) == 'e' ? 1 : 0);
        }
        for (String text : all) {
            KitchenTouch x = EdgeKit.feed(vessels(2), "k11;" + text.substring(0, text.length() - 1));
            k.is("behind another, " + text, x.house(), -20 - 4 - text.length() + 1);
            k.is("the other came", x.takes(1, 0, false), 1);
        }
        k.sentence("What is whole ahead of a FAULT came, too");
        KitchenTouch x = EdgeKit.feed(new KitchenTouch(), "t0;t1w;k03;e5,9,0,2?1;e6,0,0,1;t6;t0;");
        k.is("the digit of the sixth", x.house(), -20 - 32);
        k.is("THINGS", x.count(0), 2);
        k.is("EVENTS", x.count(1), 2);
        k.is("what it TAKES", x.takes(0, 0, false), 3);
        k.is("its UNKNOWN is 1", x.state(2, 0, 6), 2);
        k.is("its UNKNOWN is 0", x.state(61, 0, 6), 0);
        k.is("given", x.state(2, 1, 6), 3);
    }

    // ---- things, and what is taken

    private static void things() {
        k.sentence("\"t\" and a KIND (a digit)");
        for (int kind = 0; kind <= 9; kind++) {
            String text = "t" + kind + ";";
            if (kind <= 5) whole(() -> vessels(1), text, 1, 1, 0);
            else fault(() -> vessels(1), text, 1);
        }
        for (String sign : new String[] {"/", ":", "a", "w", "-", ",", ";", "\u00b0"}) fault(() -> vessels(1), "t" + sign + ";", 1);
        fault(() -> vessels(1), "t00;", 2);
        fault(() -> vessels(1), "t10;", 2);
        k.sentence("then perhaps \"w\", then perhaps \"p\"");
        whole(KitchenTouch::new, "t0;t0w;t0p;t0wp;", 4, 4, 0);
        fault(KitchenTouch::new, "t0pw;", 3);
        fault(KitchenTouch::new, "t0ww;", 3);
        fault(KitchenTouch::new, "t0pp;", 3);
        fault(KitchenTouch::new, "t0wpw;", 4);
        fault(KitchenTouch::new, "t0wpp;", 4);
        fault(KitchenTouch::new, "t0W;", 2);
        fault(KitchenTouch::new, "t0P;", 2);
        fault(KitchenTouch::new, "tw0;", 1);
        KitchenTouch x = whole(KitchenTouch::new, "t4;t1;t1w;t1p;t1wp;e0,9,0,1?0;e1,0,0,1;e1,0,0,2;e1,0,0,3;e1,0,0,4;", 10, 5, 5);
        int[] states = {1, 0, 2, 0, 2};
        for (int t = 0; t < 5; t++) k.is("WET or not, " + t, x.state(1, t, 1), states[t]);
        k.is("in public", x.judged(2, 1), 1);
        k.is("in PRIVATE", x.judged(4, 1), 0);
        k.sentence("of a JOINED that can't be joined its digit");
        fault(KitchenTouch::new, "t5;", 1);
        fault(KitchenTouch::new, "t5", 1);
        fault(KitchenTouch::new, "t5x", 1);
        fault(KitchenTouch::new, "t5wp", 1);
        fault(() -> EdgeKit.kitchen(VESSEL, GROUND), "t5;", 1);
        fault(() -> EdgeKit.kitchen(VESSEL, GROUND), "t5?", 1);
        whole(() -> EdgeKit.kitchen(GROUND, VESSEL), "t5;", 1, 1, 0);
        whole(KitchenTouch::new, "t0;t5;t5;t1;t5;t2;t5;t3;t5;", 9, 9, 0);
        KitchenTouch y = EdgeKit.feed(new KitchenTouch(), "t0;t4;t5;");
        k.is("behind GROUND of the same TEXT", y.house(), -27);
        k.is("what is whole came", y.count(0), 2);
        k.sentence("of a 13th THING its letter, whatever is behind it");
        whole(() -> vessels(11), "t0;", 1, 1, 0);
        whole(() -> vessels(11), "t5wp;", 1, 1, 0);
        fault(() -> vessels(11), "t6;", 1);
        for (String text : new String[] {"t0;", "t", "t0", "t6;", "tx", "t5;", ";t", "t;"}) fault(() -> vessels(12), text, 0);
        whole(() -> vessels(12), "k00;e0,0,0,11;", 2, 0, 1);
        KitchenTouch z = EdgeKit.feed(vessels(10), "t1;t1;t1;");
        k.is("the third has no room", z.house(), -26);
        k.is("twelve", z.count(0), 12);
    }

    private static void taken() {
        k.sentence("\"k\" KIND (a digit) and a digit: what it TAKES by THE LAW");
        for (int kind = 0; kind <= 9; kind++) {
            for (int v = 0; v <= 9; v++) {
                String text = "k" + kind + v + ";";
                if (kind > 5) fault(KitchenTouch::new, text, 1);
                else if (v > 4) fault(KitchenTouch::new, text, 2);
                else {
                    KitchenTouch x = whole(KitchenTouch::new, text, 1, 0, 0);
                    int[] first = {1, 2, 3, 1, 0, 1};
                    for (int each = 0; each < 6; each++) {
                        k.is(text + " of " + each, x.takes(each, 0, false), each == kind ? v : first[each]);
                        k.is(text + " by the other law, of " + each, x.takes(each, 0, true), first[each]);
                    }
                }
            }
        }
        for (String sign : new String[] {"/", ":", "a", "-", ",", ";", "?"}) {
            fault(KitchenTouch::new, "k" + sign + "0;", 1);
            fault(KitchenTouch::new, "k0" + sign + ";", 2);
        }
        fault(KitchenTouch::new, "k000;", 3);
        fault(KitchenTouch::new, "k04w;", 3);
        fault(KitchenTouch::new, "k65", 1);
        fault(KitchenTouch::new, "k05", 2);
        fault(KitchenTouch::new, "k0", 2);
    }

    // ---- events

    private static void isEvent(String text, int... due) {
        KitchenTouch x = whole(() -> vessels(12), text, 1, 0, 1);
        for (int what = 0; what < due.length; what++) k.is(text + ", of " + what, x.of(0, what), due[what]);
    }

    private static void hours() {
        k.sentence("HOUR: a NUMBER of 1 or 2 digits without a 0 ahead of another");
        for (int hour : new int[] {0, 1, 9, 10, 11, 23, 24, 40, 46, 47}) isEvent("e" + hour + ",8,0;", hour, 8, 0, -9, -1);
        fault(() -> vessels(1), "e00,8,0;", 2);
        fault(() -> vessels(1), "e01,8,0;", 2);
        fault(() -> vessels(1), "e09,8,0;", 2);
        fault(() -> vessels(1), "e048,8,0;", 2);
        fault(() -> vessels(1), "e100,8,0;", 3);
        fault(() -> vessels(1), "e470,8,0;", 3);
        for (String sign : new String[] {",", "-", ";", "?", "/", ":", "x"}) {
            fault(() -> vessels(1), "e" + sign + ",8,0;", 1);
            if (!sign.equals(",")) {
                fault(() -> vessels(1), "e7" + sign + "8,0;", 2);
                fault(() -> vessels(1), "e17" + sign + "8,0;", 3);
            }
        }
        k.sentence("FAULT of a NUMBER out of range (HOUR 0 .. 47): its first byte");
        for (int hour : new int[] {48, 49, 50, 90, 99}) {
            fault(() -> vessels(1), "e" + hour + ",8,0;", 1);
            fault(() -> vessels(1), "e" + hour, 1);
        }
        k.sentence("a NUMBER's range goes ahead of a sign that cannot stand behind it: HOUR");
        fault(() -> vessels(1), "e48x", 1);
        fault(() -> vessels(1), "e480,8,0;", 1);
        fault(() -> vessels(1), "e47x", 3);
        fault(() -> vessels(1), "e4x", 2);
    }

    private static void kinds() {
        k.sentence("KIND (a digit)");
        for (int kind = 0; kind <= 9; kind++) {
            boolean two = kind <= 4 || kind == 9;
            isEvent("e3," + kind + ",0" + (two ? ",1" : "") + ";", 3, kind, 0, two ? 1 : -9, -1);
        }
        for (String sign : new String[] {"/", ":", "x", ",", ";", "-", "\u00b9"}) fault(() -> vessels(2), "e3," + sign + ",0,1;", 3);
        fault(() -> vessels(2), "e3,10,0,1;", 4);
        fault(() -> vessels(2), "e3,00,0,1;", 4);
        fault(() -> vessels(2), "e3,0;0,1;", 4);
        k.sentence("(b for KINDS 0 .. 4, 9 alone)");
        for (int kind = 0; kind <= 9; kind++) {
            boolean two = kind <= 4 || kind == 9;
            String one = "e3," + kind + ",0";
            if (two) {
                fault(() -> vessels(2), one + ";", 6);
                fault(() -> vessels(2), one + "?0;", 6);
                fault(() -> vessels(2), one + "!0;", 6);
                fault(() -> vessels(2), one + ",;", 7);
                fault(() -> vessels(2), one + ",?0;", 7);
                fault(() -> vessels(2), one + ",", 7);
                fault(() -> vessels(2), one + ",1,", 8);
            } else {
                fault(() -> vessels(2), one + ",1;", 6);
                fault(() -> vessels(2), one + ",;", 6);
                fault(() -> vessels(2), one + ",", 6);
            }
        }
    }

    private static void partners() {
        k.sentence("a: a NUMBER; FAULT of a THING that is not there: its first byte");
        for (int things = 1; things <= 12; things++) {
            int n = things;
            String last = "e3,8," + (n - 1);
            whole(() -> vessels(n), last + ";", 1, 0, 1);
            fault(() -> vessels(n), "e3,8," + n + ";", 5);
            fault(() -> vessels(n), last + "x", last.length());
        }
        fault(KitchenTouch::new, "e3,8,0;", 5);
        fault(KitchenTouch::new, "e3,0,0,0;", 5);
        fault(() -> vessels(12), "e3,8,99;", 5);
        fault(() -> vessels(12), "e3,8,00;", 6);
        fault(() -> vessels(12), "e3,8,01;", 6);
        fault(() -> vessels(12), "e3,8,110;", 7);
        for (String sign : new String[] {",", ";", "?", "-", "/", ":"}) fault(() -> vessels(2), "e3,8," + sign + ";", 5);
        k.sentence("a NUMBER's range goes ahead of a sign that cannot stand behind it: a");
        fault(() -> vessels(12), "e3,8,12x", 5);
        fault(() -> vessels(12), "e3,8,120;", 5);
        fault(() -> vessels(12), "e3,8,12", 5);
        fault(() -> vessels(2), "e3,8,2", 5);
        fault(() -> vessels(2), "e3,8,2x", 5);
        fault(KitchenTouch::new, "e3,8,00;", 5);
        k.sentence("b likewise");
        for (int things = 2; things <= 12; things++) {
            int n = things;
            String last = "e3,0,0," + (n - 1);
            whole(() -> vessels(n), last + ";", 1, 0, 1);
            fault(() -> vessels(n), "e3,0,0," + n + ";", 7);
            fault(() -> vessels(n), "e3,0,0," + n, 7);
            fault(() -> vessels(n), last + "x", last.length());
        }
        isEvent("e3,0,11,10;", 3, 0, 11, 10, -1);
        fault(() -> vessels(12), "e3,0,10,12;", 8);
        fault(() -> vessels(12), "e3,0,10,99x", 8);
        fault(() -> vessels(12), "e3,0,10,00;", 9);
        fault(() -> vessels(12), "e3,0,10,01;", 9);
        fault(() -> vessels(12), "e3,0,10,110;", 10);
        k.sentence("FAULT of one twice: b's first byte");
        for (int kind = 0; kind <= 4; kind++) {
            String text = "e3," + kind + ",";
            fault(() -> vessels(12), text + "0,0;", 7);
            fault(() -> vessels(12), text + "0,0", 7);
            fault(() -> vessels(12), text + "0,0x", 7);
            fault(() -> vessels(12), text + "0,00;", 7);
            fault(() -> vessels(12), text + "11,11;", 8);
            fault(() -> vessels(12), text + "1,11x", 9);
            whole(() -> vessels(12), text + "1,11;", 1, 0, 1);
            whole(() -> vessels(12), text + "11,1;", 1, 0, 1);
        }
        k.sentence("b of KIND 9: 1 .. 4, and it may be a's number");
        for (int b = 1; b <= 4; b++) isEvent("e3,9,4," + b + ";", 3, 9, 4, b, -1);
        for (String b : new String[] {"0", "5", "9", "10", "14", "40", "44", "99"}) {
            fault(() -> vessels(12), "e3,9,4," + b + ";", 7);
            fault(() -> vessels(12), "e3,9,4," + b + "x", 7);
            fault(() -> vessels(12), "e3,9,4," + b, 7);
        }
        fault(() -> vessels(12), "e3,9,4,01;", 7);
        fault(() -> vessels(12), "e3,9,4,00;", 7);
        fault(() -> vessels(12), "e3,9,4,4x", 8);
        fault(() -> vessels(12), "e3,9,4,111;", 7);
    }

    private static void unknowns() {
        k.sentence("[ \"?\" u | \"!\" u ] (\"?\" if u is 1, \"!\" if it is 0); u a digit");
        for (int u = 0; u <= 9; u++) {
            String one = "e3,9,1,2?" + u + ";";
            String two = "e3,5,1!" + u + ";";
            if (u <= 5) {
                isEvent(one, 3, 9, 1, 2, u);
                isEvent(two, 3, 5, 1, -9, 10 + u);
                isEvent("e3,9,1,2!" + u + ";", 3, 9, 1, 2, 10 + u);
                isEvent("e3,0,1,2?" + u + ";", 3, 0, 1, 2, u);
            } else {
                fault(() -> vessels(12), one, 9);
                fault(() -> vessels(12), two, 7);
            }
        }
        for (String sign : new String[] {"?", "!"}) {
            fault(() -> vessels(12), "e3,5,1" + sign, 7);
            fault(() -> vessels(12), "e3,5,1" + sign + ";", 7);
            fault(() -> vessels(12), "e3,5,1" + sign + "x", 7);
            fault(() -> vessels(12), "e3,5,1" + sign + "-1;", 7);
            fault(() -> vessels(12), "e3,5,1" + sign + "6", 7);
            fault(() -> vessels(12), "e3,5,1" + sign + "5", 8);
            fault(() -> vessels(12), "e3,5,1" + sign + "55;", 8);
            fault(() -> vessels(12), "e3,5,1" + sign + "00;", 8);
            fault(() -> vessels(12), "e3,5,1" + sign + "1?2;", 8);
            fault(() -> vessels(12), "e3,5,1" + sign + "1!2;", 8);
            fault(() -> vessels(12), "e3" + sign + "0,5,1;", 2);
            fault(() -> vessels(12), "e3,5" + sign + "0,1;", 4);
            fault(() -> vessels(1), "t0" + sign + "0;", 2);
            fault(() -> vessels(1), "k00" + sign + "0;", 3);
        }
        KitchenTouch x = whole(() -> vessels(1), "e0,9,0,1?2;e1,5,0!4;", 2, 0, 2);
        k.is("UNKNOWNS that are named", x.count(2), 2);
        k.is("it was, and it was washed", x.state(4, 0, 1), 0);
        k.is("it was, and it was not washed", x.state(4 + 16, 0, 1), 1);
        k.is("it was not", x.state(16, 0, 1), 0);
    }

    private static void sixty() {
        k.sentence("of a 61st EVENT its letter, whatever is behind it");
        whole(() -> eventsTold(59), "e0,8,0;", 1, 0, 1);
        fault(() -> eventsTold(59), "e48,8,0;", 1);
        for (String text : new String[] {"e0,8,0;", "e", "e4", "ex", "e48", "e0,8,9;", "e0,0,0,0;", "e;"}) {
            fault(() -> eventsTold(60), text, 0);
        }
        KitchenTouch x = EdgeKit.feed(eventsTold(58), "e0,8,0;e47,9,0,3;e0,8,0;");
        k.is("the third has no room", x.house(), -20 - 17);
        k.is("sixty", x.count(1), 60);
        k.is("the 60th is done", x.state(0, 0, 47), 3);
        whole(() -> eventsTold(60), "t0;k44;", 2, 1, 0);
        KitchenTouch y = eventsTold(60);
        y.takeBack();
        EdgeKit.feed(y, "e0,8,0;e");
        k.is("room for one again", y.house(), -27);
        k.is("sixty again", y.count(1), 60);
    }

    public static void main(String[] args) {
        texts();
        letters();
        things();
        taken();
        hours();
        kinds();
        partners();
        unknowns();
        sixty();
        k.end();
    }
}
