/** Promises 17, 18 and 19: word, state and count. */
final class InspectTest {
    private static final Checks checks = new Checks("InspectTest");
    private static final int LEAST = Integer.MIN_VALUE;
    private static final int MOST = Integer.MAX_VALUE;

    public static void main(String[] args) {
        word();
        state();
        countWhileUp();
        countWhileNotUp();
        checks.end();
    }

    private static void word() {
        checks.due("word(0, 0)", new BlockStore().word(0, 0), 0);
        BlockStore x = Stores.up(16, 16, 4);
        Stores.commit(x, 1, 1);
        int[][] none = {
            {-1, 0}, {16, 0}, {0, -1}, {0, 16}, {1, -16}, {0, 17}, {-1, 16}, {LEAST, 0}, {MOST, 0}, {0, LEAST},
            {0, MOST}, {MOST, MOST}, {LEAST, LEAST}, {1 << 28, 1},
        };
        for (int[] n : none) {
            checks.due("word(" + n[0] + ", " + n[1] + ")", x.word(n[0], n[1]), 0);
        }
        checks.due("word(15, 15)", x.word(15, 15), 0);
        checks.due("word(0, 0)", x.word(0, 0), Stores.MARK);
        x.power(1);
        x.recover();
        checks.due("word(0, 0) while DOWN", x.word(0, 0), Stores.MARK);
        checks.dueBlock(x, 1, 16, 1, 1, 0, 1, 1, 1, 1, 10);
    }

    private static void state() {
        BlockStore x = new BlockStore();
        checks.due("state()", x.state(), 0);
        x.disk(16, 16, 4);
        checks.due("state()", x.state(), 1);
        x.format();
        checks.due("state()", x.state(), 2);
        x.begin();
        checks.due("state()", x.state(), 2);
        x.power(1);
        x.recover();
        checks.due("state()", x.state(), 3);
        x.recover();
        checks.due("state()", x.state(), 2);
    }

    private static void countWhileUp() {
        BlockStore x = Stores.up(16, 16, 4);
        Stores.commit(x, 1, 7);
        x.checkpoint();
        x.recover();
        Stores.commit(x, 8, 12);
        Stores.commit(x, 13, 13);
        x.begin();
        x.put(1, 1);
        x.put(50, 1);
        x.remove(2);
        x.power(9);
        int[] counts = {2 + 2 + 4 + 1 + 2 + 1, 9, 3, 2, 2, 2, 3, 4, 5};
        for (int what = 0; what < counts.length; what++) {
            checks.due("count(" + what + ")", x.count(what), counts[what]);
        }
        int[] others = {-1, 9, 10, LEAST, MOST};
        for (int what : others) {
            checks.due("count(" + what + ")", x.count(what), 0);
        }
        x.abort();
        checks.due("count(6)", x.count(6), BlockStore.NO_TRANSACTION);
    }

    private static void countWhileNotUp() {
        BlockStore[] stores = {Stores.up(16, 16, 4), Stores.up(16, 16, 4)};
        for (BlockStore x : stores) {
            Stores.commit(x, 1, 7);
            x.begin();
            x.put(1, 1);
        }
        stores[0].power(1);
        stores[0].recover();
        stores[1].power(2);
        stores[1].format();
        stores[1].recover();
        checks.due("state()", stores[0].state(), 3);
        checks.due("state()", stores[1].state(), 1);
        for (int i = 0; i < stores.length; i++) {
            BlockStore x = stores[i];
            checks.due("count(0)", x.count(0), 4 + i);
            x.power(4);
            checks.due("count(1)", x.count(1), 4);
            for (int what = 2; what <= 7; what++) {
                checks.due("count(" + what + ") while not UP", x.count(what), 0);
            }
            checks.due("count(8)", x.count(8), 5);
            checks.due("count(9)", x.count(9), 0);
        }
    }
}
