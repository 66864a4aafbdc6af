/** Promise 5: recover. */
final class RecoverTest {
    private static final Checks checks = new Checks("RecoverTest");

    public static void main(String[] args) {
        withoutFormat();
        whileUp();
        treeAndLog();
        bootOfTornRecord();
        staleRecordOfOlderEpoch();
        tornRecordAtTheLogsEnd();
        failedRecoveryWritesNothing();
        checks.end();
    }

    private static void withoutFormat() {
        checks.due("recover()", new BlockStore().recover(), BlockStore.NONE);
        BlockStore x = Stores.unformatted(16, 16, 4);
        x.power(1);
        checks.due("recover()", x.recover(), BlockStore.UNFORMATTED);
        checks.due("count(0)", x.count(0), 0);
        checks.due("count(1)", x.count(1), 1);
        checks.due("format()", x.format(), BlockStore.DOWN);
        checks.due("recover()", x.recover(), BlockStore.UNFORMATTED);
        checks.due("state()", x.state(), 1);
    }

    private static void whileUp() {
        BlockStore x = Stores.up(16, 16, 4);
        Stores.commit(x, 1, 3);
        x.begin();
        x.put(1, 99);
        x.put(7, 70);
        x.remove(2);
        checks.due("recover()", x.recover(), BlockStore.OK);
        checks.due("count(6)", x.count(6), BlockStore.NO_TRANSACTION);
        checks.due("size()", x.size(), 3);
        checks.due("get(1)", x.get(1), 10);
        checks.dueBlock(x, 0, 16, Stores.MARK, 1, 2);
        checks.due("begin()", x.begin(), BlockStore.OK);
        checks.due("count(6)", x.count(6), 0);
    }

    private static void treeAndLog() {
        BlockStore x = Stores.up(40, 16, 8);
        Stores.commit(x, -20, 3);
        x.checkpoint();
        Stores.commit(x, 4, 6);
        x.begin();
        x.remove(-20);
        x.put(3, Integer.MIN_VALUE);
        x.commit();
        int root = x.word(0, 4);
        checks.due("recover()", x.recover(), BlockStore.OK);
        checks.dueBlock(x, 0, 16, Stores.MARK, 2, 2, 1, root, 24);
        checks.due("size()", x.size(), 26);
        checks.due("key(0)", x.key(0), -19);
        checks.due("get(-19)", x.get(-19), -190);
        checks.due("get(3)", x.get(3), Integer.MIN_VALUE);
        checks.due("get(6)", x.get(6), 60);
        checks.due("count(2)", x.count(2), 2);
        checks.due("count(5)", x.count(5), 2);
        x.begin();
        x.put(100, 1);
        x.commit();
        checks.dueBlock(x, 3, 16, 2, 3, 0, 2, 1, 1, 100, 1);
    }

    /** A torn record of an older BOOT must not lend its last blocks to a newer torn one. */
    private static void bootOfTornRecord() {
        BlockStore x = Stores.up(24, 16, 10);
        x.power(3);
        Stores.commit(x, 1, 8);
        x.recover();
        x.power(2);
        checks.due("commit", Stores.commit(x, 11, 18), BlockStore.DOWN);
        checks.due("recover()", x.recover(), BlockStore.OK);
        checks.due("size()", x.size(), 0);
        checks.due("count(2)", x.count(2), 0);
        checks.due("count(4)", x.count(4), 3);
    }

    /** After a checkpoint the log's old records stand there still, and are none any more. */
    private static void staleRecordOfOlderEpoch() {
        BlockStore x = Stores.up(24, 16, 10);
        Stores.commit(x, 1, 1);
        Stores.commit(x, 2, 2);
        x.checkpoint();
        x.begin();
        x.remove(1);
        x.commit();
        checks.due("recover()", x.recover(), BlockStore.OK);
        checks.due("count(5)", x.count(5), 1);
        checks.due("count(2)", x.count(2), 1);
        checks.due("size()", x.size(), 1);
        checks.due("key(0)", x.key(0), 2);
        x.format();
        checks.due("recover()", x.recover(), BlockStore.OK);
        checks.due("size()", x.size(), 0);
    }

    private static void tornRecordAtTheLogsEnd() {
        BlockStore x = Stores.up(16, 16, 4);
        Stores.commit(x, 1, 7);
        x.power(2);
        checks.due("commit", Stores.commit(x, 8, 14), BlockStore.DOWN);
        checks.due("recover()", x.recover(), BlockStore.OK);
        checks.due("count(2)", x.count(2), 2);
        checks.due("size()", x.size(), 7);
        checks.due("commit", Stores.commit(x, 8, 14), BlockStore.OK);
        checks.due("recover()", x.recover(), BlockStore.OK);
        checks.due("count(2)", x.count(2), 4);
        checks.due("size()", x.size(), 14);
    }

    private static void failedRecoveryWritesNothing() {
        BlockStore x = Stores.up(16, 16, 4);
        Stores.commit(x, 1, 2);
        x.power(1);
        checks.due("recover()", x.recover(), BlockStore.DOWN);
        checks.due("state()", x.state(), 3);
        checks.due("size()", x.size(), 0);
        checks.due("count(0)", x.count(0), 3);
        checks.dueBlock(x, 0, 16, Stores.MARK, 1, 1);
    }
}
