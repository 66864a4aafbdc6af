import java.lang.management.ManagementFactory;
import java.util.Random;

/** An object and 512 of its dearest calls take a small part of the room: 7.3 million elements of four bytes. */
final class RoomTest {
    private static final long ROOM = 4L * 7_300_000;
    private static final Checks checks = new Checks("RoomTest");

    public static void main(String[] args) {
        calls(new BlockStore());
        long before = allocated();
        BlockStore x = new BlockStore();
        long made = allocated() - before;
        before = allocated();
        long looked = allocated() - before;
        before = allocated();
        calls(x);
        long called = allocated() - before - looked;
        System.out.println("RoomTest: " + made + " bytes for an object, " + called + " for its calls");
        checks.due("a tenth of the room is enough", made + called < ROOM / 10, true);
        checks.end();
    }

    private static long allocated() {
        com.sun.management.ThreadMXBean bean =
                (com.sun.management.ThreadMXBean) ManagementFactory.getThreadMXBean();
        return bean.getThreadAllocatedBytes(Thread.currentThread().getId());
    }

    private static void calls(BlockStore x) {
        Random random = new Random(1);
        for (int call = 0; call < 32; call++) {
            x.disk(512, 64, 128);
            x.format();
            x.begin();
            x.put(random.nextInt(), call);
            x.remove(x.key(0));
            x.put(call, call);
            x.commit();
            x.begin();
            x.abort();
            x.checkpoint();
            x.recover();
            x.sum(0, 1000, call % 4);
            x.power(1);
            x.recover();
            x.recover();
            x.count(call % 9);
        }
    }
}
