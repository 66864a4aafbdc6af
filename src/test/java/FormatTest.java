/** Promise 3: format. */
final class FormatTest {
    private static final Checks checks = new Checks("FormatTest");

    public static void main(String[] args) {
        firstFormat();
        formatWhileUp();
        powerFailsAtFirstWrite();
        powerFailsAtSecondWrite();
        wrongStates();
        checks.end();
    }

    private static void firstFormat() {
        BlockStore x = Stores.unformatted(20, 18, 5);
        checks.due("format()", x.format(), BlockStore.OK);
        checks.due("state()", x.state(), 2);
        checks.dueBlock(x, 0, 18, Stores.MARK, 1, 1, 0, 0, 0);
        for (int b = 1; b < 20; b++) {
            checks.dueZeroBlock(x, b, 18);
        }
        int[] counts = {2, 0, 0, 1, 1, 0, BlockStore.NO_TRANSACTION, 0, 7};
        for (int what = 0; what < counts.length; what++) {
            checks.due("count(" + what + ")", x.count(what), counts[what]);
        }
        checks.due("size()", x.size(), 0);
    }

    private static void formatWhileUp() {
        BlockStore x = Stores.up(16, 16, 4);
        Stores.commit(x, 1, 7);
        x.checkpoint();
        Stores.commit(x, 8, 9);
        x.recover();
        x.begin();
        x.put(5, 6);
        checks.due("format()", x.format(), BlockStore.OK);
        checks.dueBlock(x, 0, 16, Stores.MARK, 3, 1, 0, 0, 0);
        checks.due("size()", x.size(), 0);
        checks.due("has(5)", x.has(5), false);
        checks.due("count(2)", x.count(2), 0);
        checks.due("count(5)", x.count(5), 0);
        checks.due("count(6)", x.count(6), BlockStore.NO_TRANSACTION);
        checks.due("recover()", x.recover(), BlockStore.OK);
        checks.due("size()", x.size(), 0);
        checks.due("count(2)", x.count(2), 0);
    }

    private static void powerFailsAtFirstWrite() {
        BlockStore x = Stores.up(16, 16, 4);
        Stores.commit(x, 1, 3);
        x.power(1);
        checks.due("format()", x.format(), BlockStore.DOWN);
        checks.due("state()", x.state(), 3);
        checks.dueBlock(x, 0, 16, Stores.MARK, 1, 1);
        checks.due("recover()", x.recover(), BlockStore.OK);
        checks.due("size()", x.size(), 3);
        checks.due("count(6)", x.count(6), BlockStore.NO_TRANSACTION);
    }

    private static void powerFailsAtSecondWrite() {
        BlockStore x = Stores.up(16, 16, 4);
        Stores.commit(x, 1, 3);
        x.power(2);
        checks.due("format()", x.format(), BlockStore.DOWN);
        checks.due("state()", x.state(), 3);
        checks.due("count(0)", x.count(0), 4);
        checks.dueBlock(x, 0, 16, 0, 2);
        checks.due("format()", x.format(), BlockStore.DOWN);
        checks.due("recover()", x.recover(), BlockStore.UNFORMATTED);
        checks.due("state()", x.state(), 1);
        checks.due("count(0)", x.count(0), 4);
        checks.due("format()", x.format(), BlockStore.OK);
        checks.dueBlock(x, 0, 16, Stores.MARK, 3, 1);
    }

    private static void wrongStates() {
        checks.due("format()", new BlockStore().format(), BlockStore.NONE);
        BlockStore x = Stores.down(16, 16, 4);
        checks.due("format()", x.format(), BlockStore.DOWN);
        checks.due("count(0)", x.count(0), 2);
    }
}
