import java.lang.management.ManagementFactory;

/** All calls of a run live in one room: 512 of the dearest make few objects, and come to an end soon. */
public final class RoomTest {
    private static final long BYTES_MOST = 1_000_000;

    private RoomTest() { }

    public static void main(String[] args) {
        if (!(ManagementFactory.getThreadMXBean() instanceof com.sun.management.ThreadMXBean threads)) {
            System.out.println("this machine doesn't tell what is made");
            return;
        }
        dear();
        long before = threads.getCurrentThreadAllocatedBytes();
        dear();
        long made = threads.getCurrentThreadAllocatedBytes() - before;
        System.out.println("512 calls made " + made + " bytes");
        if (made > BYTES_MOST) System.exit(1);
    }

    private static void dear() {
        MorningCoin x = new MorningCoin();
        int calls = 0;
        x.text();
        for (int i = 0; i < 14; i++) {
            x.child(i & 1, i * 7, i % 10, i > 6, i % 3 == 0);
            x.deals(0, MorningCoin.NONE);
            calls += 2;
        }
        for (int i = 0; i < 12; i++) x.thing(0, i, i > 5, i);
        for (int t = 0; t < 12; t++) for (int c = 0; c < 14; c++) x.answer(t, c, (t * 31 + c * 17) % 100);
        for (int i = 0; i < 5; i++) {
            for (int fed = 0; fed < 15; fed++) x.feed(0x76616c75, 0x652d312b, 0x312b312b, 0x312b312b, 0x312b3b20);
            x.text();
            calls += 16;
        }
        calls += 1 + 12 + 12 * 14;
        while (calls < 512) {
            int i = calls++;
            switch (i % 8) {
                case 0: x.few(0, i % 12, 1000, 0); break;
                case 1: x.gap(0, i % 12); break;
                case 2: x.paid(0, 4095, 500); break;
                case 3: x.course(0, 0, 500, 1); break;
                case 4: x.changed(0, i % 12, true); break;
                case 5: x.live(0, i % 12, i); break;
                case 6: x.image(); break;
                default: x.again();
            }
        }
    }
}
