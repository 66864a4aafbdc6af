import java.lang.management.ManagementFactory;
import java.util.Random;
import java.util.function.Consumer;
import java.util.function.ObjIntConsumer;

/**
 * An object and its 512 calls live in the room: 7.3 million elements, here of four bytes, as the disk's ints have. Each
 * call is made as often as 512 calls let it, so that the dearest one is counted for all of them.
 */
final class RoomTest {
    private static final long ROOM = 4L * 7_300_000;
    private static final int CALLS = 512;
    private static final Checks checks = new Checks("RoomTest");
    private static long most = 0;

    public static void main(String[] args) {
        again("disk", 0, x -> { }, 1, (x, call) -> x.disk(512, 64, 128));
        again("format", 1, x -> x.disk(512, 64, 128), 1, (x, call) -> x.format());
        again("power and recover", 5, RoomTest::committed, 2, (x, call) -> {
            x.power(1);
            x.recover();
        });
        again("recover", 5, RoomTest::committed, 1, (x, call) -> x.recover());
        again("recover of many changes", 409, RoomTest::manyCommitted, 1, (x, call) -> x.recover());
        again("begin and commit", 2, RoomTest::up, 3, (x, call) -> {
            x.begin();
            x.put(1, 1);
            x.commit();
        });
        again("begin and abort", 5, RoomTest::committed, 2, (x, call) -> {
            x.begin();
            x.abort();
        });
        again("put", 3, RoomTest::begun, 1, (x, call) -> x.put(-call, call));
        again("put and remove", 3, RoomTest::begun, 2, (x, call) -> {
            x.put(1, 1);
            x.remove(1);
        });
        again("checkpoint of many keys", 409, RoomTest::manyCommitted, 1, (x, call) -> x.checkpoint());
        again("get", 409, RoomTest::manyCommitted, 1, (x, call) -> x.get(7));
        again("has", 409, RoomTest::manyCommitted, 1, (x, call) -> x.has(7));
        again("size", 409, RoomTest::manyCommitted, 1, (x, call) -> x.size());
        again("key", 409, RoomTest::manyCommitted, 1, (x, call) -> x.key(7));
        again("sum", 409, RoomTest::manyCommitted, 1, (x, call) -> x.sum(0, 1000, 1));
        again("word", 2, RoomTest::up, 1, (x, call) -> x.word(0, 0));
        again("state", 2, RoomTest::up, 1, (x, call) -> x.state());
        again("count", 2, RoomTest::up, 1, (x, call) -> x.count(7));
        System.out.println("RoomTest: the dearest run takes " + most + " of " + ROOM + " bytes");
        checks.end();
    }

    private static void up(BlockStore x) {
        x.disk(512, 64, 128);
        x.format();
    }

    private static void begun(BlockStore x) {
        up(x);
        x.begin();
    }

    private static void committed(BlockStore x) {
        begun(x);
        x.put(1, 10);
        x.commit();
    }

    private static void manyCommitted(BlockStore x) {
        begun(x);
        Random random = new Random(1);
        for (int call = 0; call < 405; call++) {
            x.put(random.nextInt(), call);
        }
        x.commit();
    }

    /** The calls that come first are so many, and so many are made in each turn behind them. */
    private static void again(String told, int first, Consumer<BlockStore> begin, int each,
            ObjIntConsumer<BlockStore> turn) {
        // The Java machine's own making of classes and lambdas is not the program's: a first run takes it away.
        use(first, begin, each, turn);
        long before = allocated();
        use(first, begin, each, turn);
        long taken = allocated() - before;
        most = Math.max(most, taken);
        checks.due(told + ": " + taken + " bytes are in the room", taken <= ROOM, true);
    }

    private static void use(int first, Consumer<BlockStore> begin, int each, ObjIntConsumer<BlockStore> turn) {
        BlockStore x = new BlockStore();
        begin.accept(x);
        for (int calls = first; calls + each <= CALLS; calls += each) {
            turn.accept(x, calls);
        }
    }

    private static long allocated() {
        com.sun.management.ThreadMXBean bean =
                (com.sun.management.ThreadMXBean) ManagementFactory.getThreadMXBean();
        return bean.getThreadAllocatedBytes(Thread.currentThread().getId());
    }
}
