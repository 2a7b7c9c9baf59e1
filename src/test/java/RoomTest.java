import com.sun.management.ThreadMXBean;
import java.lang.management.ManagementFactory;

/** No call makes anything anew: all rows are made with the object. */
public final class RoomTest {
    private static long answers = 0;

    private static KitchenTouch dearest() {
        KitchenTouch x = new KitchenTouch();
        for (int t = 0; t < 12; t++) x.thing(t == 0 ? 3 : t % 3 == 0 ? 2 : 5, true, false);
        for (int e = 0; e < 60; e++) {
            int kind = e % 10;
            int b = kind == 9 ? 1 + e % 4 : (e + 5) % 12;
            x.event(12 + e % 30, kind, (e * 7) % 12 == b && kind < 5 ? (b + 1) % 12 : (e * 7) % 12, b, e % 3 == 0 ? e % 6 : 10 + e % 6);
        }
        for (int s = 0; s < 5; s++) x.step(s, s, s + 4);
        x.law(1, 3);
        return x;
    }

    private static void use(KitchenTouch x, int calls) {
        for (int i = 0; i < calls; i++) {
            answers += x.washing(i % 48, 1 << i % 12) + x.cooking(0) + x.judged(i % 12, 47) + x.rivals(i % 48) + x.question(i % 48, 1);
            answers += x.sources(i % 12, i % 48) + x.beside(i % 48) + x.state(i % 64, i % 12, 47) + x.when(i % 64, i % 12) + x.ways(1);
            answers += x.image() + x.takeBack() + x.restore() + x.feed(4, 0x3b773174L) + x.house() + x.takes(i % 6, i % 5, i % 2 == 0);
        }
    }

    public static void main(String[] args) {
        ThreadMXBean bean = (ThreadMXBean) ManagementFactory.getThreadMXBean();
        long id = Thread.currentThread().getId();
        use(dearest(), 20);
        bean.getThreadAllocatedBytes(id);
        KitchenTouch x = dearest();
        long began = bean.getThreadAllocatedBytes(id);
        use(x, 32);
        long made = bean.getThreadAllocatedBytes(id) - began;
        boolean fine = made < 1000;
        System.out.println("RoomTest: the calls made " + made + " bytes" + (answers == 0 ? "." : ""));
        if (!fine) System.exit(1);
    }
}
