/** Promise 9: commit. */
final class CommitTest {
    private static final Checks checks = new Checks("CommitTest");

    public static void main(String[] args) {
        oneBlock();
        lengthsOfRecords();
        severalBlocks();
        withoutChanges();
        logIsFull();
        powerFails();
        checks.end();
    }

    private static void oneBlock() {
        BlockStore x = Stores.up(16, 16, 4);
        checks.due("commit()", x.commit(), BlockStore.NO_TRANSACTION);
        x.begin();
        x.put(7, 70);
        x.put(-3, 30);
        checks.due("commit()", x.commit(), BlockStore.OK);
        checks.dueBlock(x, 1, 16, 1, 1, 0, 1, 2, 1, -3, 30, 1, 7, 70);
        checks.due("commit()", x.commit(), BlockStore.NO_TRANSACTION);
        checks.due("get(-3)", x.get(-3), 30);
        x.recover();
        x.begin();
        x.remove(7);
        checks.due("commit()", x.commit(), BlockStore.OK);
        checks.dueBlock(x, 2, 16, 1, 2, 0, 2, 1, 2, 7, 0);
        checks.due("count(2)", x.count(2), 2);
        checks.due("count(5)", x.count(5), 2);
    }

    /** 1 + 3 m ints, as many in a block as there are words less five. */
    private static void lengthsOfRecords() {
        for (int words = 16; words <= 64; words++) {
            for (int m = 1; m <= 60; m += 1 + m / 20) {
                BlockStore x = Stores.up(200, words, 60);
                Stores.commit(x, 1, m);
                int want = (1 + 3 * m + words - 6) / (words - 5);
                checks.due("count(2) of " + m + " changes, " + words + " words", x.count(2), want);
                checks.due("count(0)", x.count(0), 2 + want);
                x.recover();
                checks.due("size()", x.size(), m);
            }
        }
    }

    private static void severalBlocks() {
        BlockStore x = Stores.up(16, 16, 4);
        Stores.commit(x, 1, 7);
        checks.dueBlock(x, 1, 16, 1, 1, 0, 1, 7, 1, 1, 10, 1, 2, 20, 1, 3, 30, 1);
        checks.dueBlock(x, 2, 16, 1, 1, 1, 1, 4, 40, 1, 5, 50, 1, 6, 60, 1, 7, 70);
        checks.dueZeroBlock(x, 3, 16);
    }

    private static void withoutChanges() {
        BlockStore x = Stores.up(16, 16, 4);
        for (int i = 0; i < 4; i++) {
            Stores.commit(x, i, i);
        }
        checks.due("count(2)", x.count(2), 4);
        x.begin();
        checks.due("commit() of no change in a full log", x.commit(), BlockStore.OK);
        checks.due("count(0)", x.count(0), 6);
        checks.due("count(5)", x.count(5), 4);
        checks.due("count(6)", x.count(6), BlockStore.NO_TRANSACTION);
    }

    private static void logIsFull() {
        BlockStore x = Stores.up(16, 16, 4);
        Stores.commit(x, 1, 10);
        checks.due("count(2)", x.count(2), 3);
        x.begin();
        x.put(20, 1);
        x.put(21, 1);
        x.put(22, 1);
        x.put(23, 1);
        x.power(1);
        checks.due("commit()", x.commit(), BlockStore.FULL);
        checks.due("count(1)", x.count(1), 1);
        checks.due("count(6)", x.count(6), 4);
        checks.due("size()", x.size(), 14);
        checks.due("count(2)", x.count(2), 3);
        checks.due("checkpoint()", x.checkpoint(), BlockStore.IN_TRANSACTION);
        x.abort();
        checks.due("size()", x.size(), 10);
        x.power(0);
        checks.due("commit", Stores.commit(x, 20, 22), BlockStore.OK);
        checks.due("count(2)", x.count(2), 4);
        x.begin();
        x.put(30, 1);
        checks.due("commit()", x.commit(), BlockStore.FULL);
        x.abort();
        checks.due("checkpoint()", x.checkpoint(), BlockStore.OK);
        checks.due("commit", Stores.commit(x, 30, 30), BlockStore.OK);
        checks.dueBlock(x, 1, 16, 2, 1, 0, 1, 1, 1, 30, 300);
    }

    private static void powerFails() {
        BlockStore x = Stores.up(16, 16, 4);
        x.power(2);
        checks.due("commit", Stores.commit(x, 1, 7), BlockStore.DOWN);
        checks.due("state()", x.state(), 3);
        checks.due("count(0)", x.count(0), 3);
        checks.dueBlock(x, 1, 16, 1, 1, 0, 1, 7, 1, 1, 10, 1, 2, 20, 1, 3, 30, 1);
        checks.dueZeroBlock(x, 2, 16);
        checks.due("commit()", x.commit(), BlockStore.DOWN);
        x.recover();
        checks.due("commit()", x.commit(), BlockStore.NO_TRANSACTION);
    }
}
