import java.lang.management.ManagementFactory;
import java.util.Random;

/** An object takes a small part of the room when it is made, and its calls take nothing. */
final class RoomTest {
    private static final long BYTES_OF_AN_OBJECT = 4L * 100_000;
    private static final long SLACK = 20_000;
    private static final Checks checks = new Checks("RoomTest");

    public static void main(String[] args) {
        calls(new BlockStore());
        long before = allocated();
        BlockStore x = new BlockStore();
        long made = allocated() - before;
        before = allocated();
        long looked = allocated() - before;
        before = allocated();
        calls(x);
        long called = allocated() - before - looked;
        System.out.println("RoomTest: " + made + " bytes for an object, " + called + " for its calls");
        checks.due("an object is small", made < BYTES_OF_AN_OBJECT, true);
        checks.due("calls make nothing", called < SLACK, true);
        checks.end();
    }

    private static long allocated() {
        com.sun.management.ThreadMXBean bean =
                (com.sun.management.ThreadMXBean) ManagementFactory.getThreadMXBean();
        return bean.getThreadAllocatedBytes(Thread.currentThread().getId());
    }

    private static void calls(BlockStore x) {
        Random random = new Random(1);
        for (int call = 0; call < 100; call++) {
            x.disk(512, 64, 128);
            x.format();
            x.begin();
            x.put(random.nextInt(), call);
            x.remove(x.key(0));
            x.put(call, call);
            x.commit();
            x.begin();
            x.abort();
            x.checkpoint();
            x.recover();
            x.sum(0, 1000, call % 4);
            x.power(1);
            x.recover();
            x.recover();
            x.count(call % 9);
        }
    }
}
