import com.sun.management.ThreadMXBean;
import java.lang.management.ManagementFactory;

/** An object and its 512 dearest calls have room in one run: 7.3 million fields and elements, most of them of four bytes. */
public final class RoomTest {
    private static final long ROOM = 7_300_000L * 4;
    private static final int CALLS = 512;
    private static long answers = 0;

    private static KitchenTouch dearest() {
        KitchenTouch x = new KitchenTouch();
        for (int t = 0; t < 12; t++) x.thing(t == 0 ? 3 : t % 3 == 0 ? 2 : 5, true, false);
        for (int e = 0; e < 60; e++) {
            int kind = e % 10;
            int b = kind == 9 ? 1 + e % 4 : (e + 5) % 12;
            x.event(12 + e % 30, kind, (e * 7) % 12 == b && kind < 5 ? (b + 1) % 12 : (e * 7) % 12, b, e % 3 == 0 ? e % 6 : 10 + e % 6);
        }
        for (int s = 0; s < 5; s++) x.step(s, s, s + 4);
        x.law(1, 3);
        return x;
    }

    private static int call(KitchenTouch x, int which, int i) {
        switch (which) {
            case 0: return x.washing(i % 48, 1 << i % 12);
            case 1: return x.cooking(0);
            case 2: return x.judged(i % 12, 47);
            case 3: return x.rivals(i % 48);
            case 4: return x.question(i % 48, 1);
            case 5: return x.sources(i % 12, i % 48);
            case 6: return x.beside(i % 48);
            case 7: return x.state(i % 64, i % 12, 47);
            case 8: return x.when(i % 64, i % 12);
            case 9: return x.ways(1);
            case 10: return x.image();
            case 11: return x.takeBack();
            case 12: return x.restore();
            case 13: return x.feed(4, 0x3b773174L);
            case 14: return x.house();
            default: return x.takes(i % 6, i % 5, i % 2 == 0);
        }
    }

    /** An object used to its last call; those of a setting come first. */
    private static void use() {
        KitchenTouch x = dearest();
        for (int i = 12 + 60 + 5 + 1; i < CALLS; i++) answers += call(x, i % 16, i / 16);
    }

    public static void main(String[] args) {
        ThreadMXBean bean = (ThreadMXBean) ManagementFactory.getThreadMXBean();
        long id = Thread.currentThread().getId();
        use();
        bean.getThreadAllocatedBytes(id);
        long began = bean.getThreadAllocatedBytes(id);
        use();
        long made = bean.getThreadAllocatedBytes(id) - began;
        System.out.println("RoomTest: an object and its calls took " + made + " bytes of " + ROOM + (answers == 0 ? "." : ""));
        if (made > ROOM) System.exit(1);
    }
}
