/** What every call answers while the store is WITHOUT a disk, UNFORMATTED or DOWN. */
final class StatesTest {
    private static final Checks checks = new Checks("StatesTest");

    public static void main(String[] args) {
        BlockStore without = new BlockStore();
        without.disk(1, 2, 3);
        refused(without, BlockStore.NONE);
        checks.due("format()", without.format(), BlockStore.NONE);
        checks.due("recover()", without.recover(), BlockStore.NONE);
        checks.due("power(1)", without.power(1), BlockStore.NONE);
        checks.due("state()", without.state(), 0);
        BlockStore unformatted = Stores.unformatted(16, 16, 4);
        refused(unformatted, BlockStore.UNFORMATTED);
        checks.due("state()", unformatted.state(), 1);
        BlockStore down = Stores.up(16, 16, 4);
        Stores.commit(down, 1, 3);
        down.begin();
        down.put(2, 2);
        down.power(1);
        down.commit();
        refused(down, BlockStore.DOWN);
        checks.due("format()", down.format(), BlockStore.DOWN);
        checks.due("state()", down.state(), 3);
        checks.due("count(0)", down.count(0), 3);
        checks.due("power(0)", down.power(0), BlockStore.OK);
        checks.due("recover()", down.recover(), BlockStore.OK);
        checks.due("size()", down.size(), 3);
        fallenFromUpToUnformatted();
        checks.end();
    }

    /** A transaction and keys from before must not shine through. */
    private static void fallenFromUpToUnformatted() {
        BlockStore x = Stores.up(16, 16, 4);
        Stores.commit(x, 1, 3);
        x.begin();
        x.power(2);
        x.format();
        x.recover();
        refused(x, BlockStore.UNFORMATTED);
        x.disk(16, 16, 4);
        refused(x, BlockStore.UNFORMATTED);
    }

    private static void refused(BlockStore x, int answer) {
        checks.due("begin()", x.begin(), answer);
        checks.due("put(1, 1)", x.put(1, 1), answer);
        checks.due("remove(1)", x.remove(1), answer);
        checks.due("commit()", x.commit(), answer);
        checks.due("abort()", x.abort(), answer);
        checks.due("checkpoint()", x.checkpoint(), answer);
        checks.due("get(1)", x.get(1), 0);
        checks.due("has(1)", x.has(1), false);
        checks.due("size()", x.size(), 0);
        checks.due("key(0)", x.key(0), 0);
        for (int what = 0; what <= 3; what++) {
            checks.due("sum(0, 9, " + what + ")", x.sum(0, 9, what), 0);
        }
    }
}
