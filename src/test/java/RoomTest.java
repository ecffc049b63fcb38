import java.lang.management.ManagementFactory;

/** All that an object needs is made with it: its calls make nothing, and it is small itself. */
public final class RoomTest {
    private static final com.sun.management.ThreadMXBean BEAN =
        (com.sun.management.ThreadMXBean) ManagementFactory.getThreadMXBean();

    private static long made() {
        return BEAN.getThreadAllocatedBytes(Thread.currentThread().getId());
    }

    private static void use(SkyCuts x) {
        x.feed(0x30723763, 0x20202020, 0x20202020, 0x20202020, 0x20202020);
        x.stream(20);
        x.feed(0x33643763, 0x20202020, 0x20202020, 0x20202020, 0x20202020);
        x.stream(20);
        x.flow(0, 3, 9, 5);
        x.flow(1, 5, 11, 4);
        x.span(0, 1, 2);
        // load ways;
        x.feed(0x6c6f6164, 0x20776179, 0x733b2020, 0x20202020, 0x20202020);
        x.rules(20);
        x.paint(64, 127, 1);
        x.assign(0, 2);
        x.configure(0);
        x.configure(8);
        x.storm(2, true);
        x.did(0, 4, 9, false);
        for (int c = 0; c < 8; c++) {
            x.region(c);
        }
        for (int i = 0; i < 3; i++) {
            x.hears(0, 5, 4);
            x.peak(0, 0);
            x.neck(1, 0);
            x.shorts(0);
            x.edge(0);
            x.cost();
            x.better(0);
            x.grow(2);
            x.parted(3, -1);
            x.plan(5, -1);
            x.rota(4, 5, 9);
            x.lacks(4, 5);
            x.enough(5);
            x.mends(5, 2, 2, -1);
            x.fit(4);
            x.lead(0, 5, 0, true);
            x.worth(1, 1);
            x.mark();
            x.back();
            x.count(0);
        }
    }

    public static void main(String[] args) {
        use(new SkyCuts());
        long start = made();
        SkyCuts x = new SkyCuts();
        long after = made();
        use(x);
        long end = made();
        System.out.println("RoomTest: an object has " + (after - start) + " bytes, its calls made " + (end - after));
        if (after - start > 70000 || end - after > 2000) {
            System.out.println("RoomTest: that is too much");
            System.exit(1);
        }
    }
}
