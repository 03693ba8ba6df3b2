import java.lang.management.ManagementFactory;

/** All calls of one run live in one room: calls must not make objects, but for a TEXT that is kept. */
public final class RoomTest {
    private static final com.sun.management.ThreadMXBean THREADS =
        (com.sun.management.ThreadMXBean) ManagementFactory.getThreadMXBean();

    public static void main(String[] args) {
        // once ahead, so that what the machine makes when it first meets a class isn't counted
        for (int i = 0; i < 20; i++) callAll(new DriedOut(), i);
        DriedOut x = new DriedOut();
        used();
        long empty = used() - used();
        long before = used();
        for (int i = 0; i < 500; i++) new DriedOut();
        long anObject = (used() - before + empty) / 500;
        before = used();
        for (int i = 0; i < 20; i++) callAll(x, i);
        long calls = used() - before + empty;
        System.out.println("an object: " + anObject + " bytes; 20 rounds of all calls: " + calls + " bytes");
        // five TEXTS are kept; all else must be free
        if (anObject > 12000 || calls > 6000) {
            System.out.println("too much");
            System.exit(1);
        }
    }

    private static long used() {
        return THREADS.getCurrentThreadAllocatedBytes();
    }

    private static void callAll(DriedOut x, int i) {
        x.plank(i % 6, 20100 + i, 70 + i % 10);
        x.set(3, i % 9, i);
        x.told(0, 4);
        x.gap(0, 3);
        x.feed(8, 0x203b31206b616f73L);
        x.feed(7, 0x3b31206b61656cL);
        x.feed(8, 0x203b317365697264L);
        x.text();
        x.force(i % 6);
        x.comes();
        for (int what = 0; what < 5; what++) x.run(60, 0, what);
        x.lay(1);
        x.air(2);
        x.tight();
        x.out();
        x.sack(5);
        x.first(5);
        x.most(0);
        x.far(500);
        x.nails(1);
        x.image();
        x.back();
        x.count(1);
        x.sheet(i % 4, i % 3, 40);
        x.cell(i % 4, 1, 10);
        x.copy(i % 4, 0, i % 4, 1, 9);
        x.planks(i % 4, i % 3, 0, 2);
        x.taken(0, 0);
    }
}
