/** Promise 11: checkpoint. */
final class CheckpointTest {
    private static final Checks checks = new Checks("CheckpointTest");

    public static void main(String[] args) {
        withoutKeys();
        oneLeaf();
        threeRows();
        areasTakeTurns();
        areaIsFull();
        blocksThatTreesNeed();
        refusals();
        checks.end();
    }

    private static void withoutKeys() {
        BlockStore x = Stores.up(16, 16, 4);
        Stores.commit(x, 1, 1);
        x.begin();
        x.remove(1);
        x.commit();
        checks.due("checkpoint()", x.checkpoint(), BlockStore.OK);
        checks.due("count(0)", x.count(0), 5);
        checks.dueBlock(x, 0, 16, Stores.MARK, 2, 1, 1, 0, 0);
        checks.due("recover()", x.recover(), BlockStore.OK);
        checks.due("size()", x.size(), 0);
    }

    private static void oneLeaf() {
        BlockStore x = Stores.up(16, 17, 4);
        Stores.commit(x, -2, 4);
        checks.due("count(7)", x.count(7), 1);
        checks.due("checkpoint()", x.checkpoint(), BlockStore.OK);
        checks.dueBlock(x, 10, 17, 1, 7, -2, -20, -1, -10, 0, 0, 1, 10, 2, 20, 3, 30, 4, 40);
        checks.dueBlock(x, 0, 17, Stores.MARK, 2, 1, 1, 10, 7);
        checks.due("count(2)", x.count(2), 0);
        checks.due("count(5)", x.count(5), 0);
        checks.due("count(3)", x.count(3), 2);
    }

    private static void threeRows() {
        BlockStore x = Stores.up(60, 16, 20);
        Stores.commit(x, 1, 40);
        checks.due("count(7)", x.count(7), 10);
        checks.due("checkpoint()", x.checkpoint(), BlockStore.OK);
        // Two areas of 19 blocks: area 1 from 40 on, seven leaves, two nodes, the root.
        checks.dueBlock(x, 40, 16, 1, 6, 1, 10, 2, 20, 3, 30, 4, 40, 5, 50, 6, 60);
        checks.dueBlock(x, 46, 16, 1, 4, 37, 370, 38, 380, 39, 390, 40, 400);
        checks.dueBlock(x, 47, 16, 2, 6, 1, 40, 7, 41, 13, 42, 19, 43, 25, 44, 31, 45);
        checks.dueBlock(x, 48, 16, 2, 1, 37, 46);
        checks.dueBlock(x, 49, 16, 2, 2, 1, 47, 37, 48);
        checks.dueZeroBlock(x, 50, 16);
        checks.dueBlock(x, 0, 16, Stores.MARK, 2, 1, 1, 49, 40);
        checks.due("recover()", x.recover(), BlockStore.OK);
        checks.due("size()", x.size(), 40);
        checks.due("sum", x.sum(1, 40, 1), 8200);
    }

    private static void areasTakeTurns() {
        BlockStore x = Stores.up(17, 16, 4);
        Stores.commit(x, 1, 7);
        int[] starts = {11, 5, 11, 5};
        for (int turn = 0; turn < starts.length; turn++) {
            x.recover();
            checks.due("checkpoint()", x.checkpoint(), BlockStore.OK);
            checks.dueBlock(x, 0, 16, Stores.MARK, 2 + turn, 2 + turn, turn % 2 == 0 ? 1 : 0, starts[turn] + 2, 7);
            checks.dueBlock(x, starts[turn] + 1, 16, 1, 1, 7, 70);
        }
    }

    private static void areaIsFull() {
        BlockStore x = Stores.up(16, 16, 11);
        Stores.commit(x, 1, 6);
        checks.due("checkpoint()", x.checkpoint(), BlockStore.OK);
        Stores.commit(x, 7, 7);
        checks.due("count(7)", x.count(7), 3);
        checks.due("count(8)", x.count(8), 2);
        x.power(1);
        int writes = x.count(0);
        checks.due("checkpoint()", x.checkpoint(), BlockStore.FULL);
        checks.due("count(0)", x.count(0), writes);
        checks.due("count(1)", x.count(1), 1);
        checks.due("count(2)", x.count(2), 1);
        checks.due("count(3)", x.count(3), 2);
        checks.due("size()", x.size(), 7);
        x.power(0);
        x.begin();
        x.remove(3);
        x.commit();
        checks.due("checkpoint()", x.checkpoint(), BlockStore.OK);
        checks.dueBlock(x, 12, 16, 1, 6, 1, 10, 2, 20, 4, 40, 5, 50, 6, 60, 7, 70);
    }

    private static void blocksThatTreesNeed() {
        int[][] cases = {
            {16, 0, 0}, {16, 1, 1}, {16, 6, 1}, {16, 7, 3}, {16, 36, 7}, {16, 37, 10}, {18, 7, 1}, {18, 8, 3},
            {19, 8, 1}, {19, 9, 3}, {64, 30, 1}, {64, 31, 3}, {16, 216, 43}, {16, 217, 47},
        };
        for (int[] c : cases) {
            BlockStore x = Stores.up(400, c[0], 128);
            for (int key = 1; key <= c[1]; key += 60) {
                Stores.commit(x, key, Math.min(key + 59, c[1]));
            }
            checks.due("count(7) of " + c[1] + " keys, " + c[0] + " words", x.count(7), c[2]);
            int writes = x.count(0);
            checks.due("checkpoint()", x.checkpoint(), BlockStore.OK);
            checks.due("count(0)", x.count(0), writes + c[2] + 1);
            checks.due("recover()", x.recover(), BlockStore.OK);
            checks.due("size()", x.size(), c[1]);
            checks.due("sum", x.sum(1, 1000, 1), 5L * c[1] * (c[1] + 1));
        }
    }

    private static void refusals() {
        BlockStore x = Stores.up(16, 16, 11);
        Stores.commit(x, 1, 20);
        x.begin();
        checks.due("checkpoint()", x.checkpoint(), BlockStore.IN_TRANSACTION);
        x.abort();
        checks.due("checkpoint()", x.checkpoint(), BlockStore.FULL);
        checks.due("checkpoint()", new BlockStore().checkpoint(), BlockStore.NONE);
        checks.due("checkpoint()", Stores.down(16, 16, 4).checkpoint(), BlockStore.DOWN);
        checks.due("checkpoint()", Stores.unformatted(16, 16, 4).checkpoint(), BlockStore.UNFORMATTED);
    }
}
