/** Promise 4: power, at every write of every call that writes. */
final class PowerTest {
    private static final Checks checks = new Checks("PowerTest");

    public static void main(String[] args) {
        answers();
        latestCounts();
        countsDownAcrossCalls();
        failsOnce();
        everyWriteOfCommit();
        everyWriteOfCheckpoint();
        checks.end();
    }

    private static void answers() {
        int[] numbers = {Integer.MIN_VALUE, -1, 0, 1, 2, Integer.MAX_VALUE};
        BlockStore[] stores = {
            Stores.unformatted(16, 16, 4), Stores.up(16, 16, 4), Stores.down(16, 16, 4)};
        for (int n : numbers) {
            checks.due("power(" + n + ")", new BlockStore().power(n), BlockStore.NONE);
            for (BlockStore x : stores) {
                checks.due("power(" + n + ")", x.power(n), BlockStore.OK);
                checks.due("count(1)", x.count(1), Math.max(n, 0));
            }
        }
        BlockStore none = new BlockStore();
        none.power(3);
        checks.due("count(1)", none.count(1), 0);
        none.disk(16, 16, 4);
        checks.due("count(1)", none.count(1), 0);
    }

    private static void latestCounts() {
        BlockStore x = Stores.up(16, 16, 4);
        x.power(1);
        x.power(3);
        checks.due("commit", Stores.commit(x, 1, 1), BlockStore.OK);
        x.power(0);
        checks.due("commit", Stores.commit(x, 2, 2), BlockStore.OK);
        checks.due("commit", Stores.commit(x, 3, 3), BlockStore.OK);
        x.power(2);
        x.power(-5);
        checks.due("checkpoint()", x.checkpoint(), BlockStore.OK);
        checks.due("state()", x.state(), 2);
    }

    private static void countsDownAcrossCalls() {
        BlockStore x = Stores.unformatted(16, 16, 4);
        x.power(6);
        x.format();
        checks.due("count(1)", x.count(1), 4);
        Stores.commit(x, 1, 1);
        checks.due("count(1)", x.count(1), 3);
        x.recover();
        checks.due("count(1)", x.count(1), 2);
        checks.due("checkpoint()", x.checkpoint(), BlockStore.DOWN);
        checks.due("count(1)", x.count(1), 0);
        checks.due("count(0)", x.count(0), 5);
        checks.due("state()", x.state(), 3);
    }

    private static void failsOnce() {
        BlockStore x = Stores.up(16, 16, 4);
        x.power(1);
        checks.due("commit", Stores.commit(x, 1, 1), BlockStore.DOWN);
        checks.due("recover()", x.recover(), BlockStore.OK);
        checks.due("commit", Stores.commit(x, 1, 1), BlockStore.OK);
        x.power(1);
        x.begin();
        checks.due("commit() of no change", x.commit(), BlockStore.OK);
        checks.due("count(1)", x.count(1), 1);
        checks.due("recover()", x.recover(), BlockStore.DOWN);
        x.power(1);
        checks.due("recover()", x.recover(), BlockStore.DOWN);
        checks.due("count(4)", x.count(4), 0);
        checks.due("recover()", x.recover(), BlockStore.OK);
        checks.due("count(4)", x.count(4), 3);
        checks.due("size()", x.size(), 1);
    }

    private static void everyWriteOfCommit() {
        for (int n = 1; n <= 5; n++) {
            BlockStore x = Stores.up(24, 16, 10);
            Stores.commit(x, 1, 2);
            x.power(n);
            // 12 changes are 37 ints: four blocks of eleven.
            int answer = Stores.commit(x, 11, 22);
            checks.due("commit at write " + n, answer, n <= 4 ? BlockStore.DOWN : BlockStore.OK);
            checks.due("count(0)", x.count(0), 3 + Math.min(n - 1, 4));
            checks.due("recover()", n <= 4 ? x.recover() : BlockStore.OK, BlockStore.OK);
            checks.due("size()", x.size(), n <= 4 ? 2 : 14);
            checks.due("count(2)", x.count(2), n <= 4 ? 1 : 5);
            checks.due("count(5)", x.count(5), n <= 4 ? 1 : 2);
        }
    }

    private static void everyWriteOfCheckpoint() {
        for (int n = 1; n <= 5; n++) {
            BlockStore x = Stores.up(24, 16, 10);
            Stores.commit(x, 1, 12);
            x.power(n);
            checks.due("checkpoint() at write " + n, x.checkpoint(), n <= 4 ? BlockStore.DOWN : BlockStore.OK);
            checks.due("state()", x.state(), n <= 4 ? 3 : 2);
            x.power(0);
            checks.due("recover()", x.recover(), BlockStore.OK);
            checks.due("size()", x.size(), 12);
            checks.due("get(12)", x.get(12), 120);
            checks.due("count(3)", x.count(3), n <= 4 ? 1 : 2);
            checks.due("count(2)", x.count(2), n <= 4 ? 4 : 0);
            checks.due("checkpoint()", x.checkpoint(), BlockStore.OK);
            checks.due("recover()", x.recover(), BlockStore.OK);
            checks.due("size()", x.size(), 12);
        }
    }
}
