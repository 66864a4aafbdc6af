/** Promises 1 and 2: a new object, and disk. */
final class DiskTest {
    private static final Checks checks = new Checks("DiskTest");

    public static void main(String[] args) {
        newObject();
        numbers();
        falseLeavesAll();
        newDiskIsBlank();
        smallerAndLargerDisks();
        checks.end();
    }

    private static void newObject() {
        BlockStore x = new BlockStore();
        checks.due("state()", x.state(), 0);
        checks.due("format()", x.format(), BlockStore.NONE);
        for (int what = -1; what <= 9; what++) {
            checks.due("count(" + what + ")", x.count(what), 0);
        }
    }

    private static void numbers() {
        int[][] wrong = {
            {15, 16, 4}, {513, 16, 4}, {16, 15, 4}, {16, 65, 4}, {16, 16, 3}, {512, 16, 129}, {16, 16, 12},
            {132, 16, 128}, {0, 0, 0}, {-16, -16, -4}, {16, 16, Integer.MAX_VALUE}, {16, 16, Integer.MIN_VALUE},
            {Integer.MAX_VALUE, 16, 4}, {Integer.MIN_VALUE, 16, 4}, {16, Integer.MAX_VALUE, 4},
            {16, Integer.MIN_VALUE, 4},
        };
        for (int[] n : wrong) {
            BlockStore x = new BlockStore();
            checks.due("disk" + java.util.Arrays.toString(n), x.disk(n[0], n[1], n[2]), false);
            checks.due("state()", x.state(), 0);
        }
        int[][] right = {
            {16, 16, 4, 5}, {16, 16, 11, 2}, {17, 16, 11, 2}, {18, 16, 11, 3}, {512, 64, 128, 191},
            {512, 64, 4, 253}, {133, 16, 128, 2}, {16, 64, 4, 5},
        };
        for (int[] n : right) {
            BlockStore x = new BlockStore();
            checks.due("disk" + java.util.Arrays.toString(n), x.disk(n[0], n[1], n[2]), true);
            checks.due("state()", x.state(), 1);
            checks.due("count(8)", x.count(8), n[3]);
        }
    }

    private static void falseLeavesAll() {
        BlockStore x = Stores.up(16, 16, 4);
        Stores.commit(x, 1, 3);
        x.begin();
        x.put(9, 90);
        x.power(7);
        checks.due("disk(16, 16, 12)", x.disk(16, 16, 12), false);
        checks.due("state()", x.state(), 2);
        checks.due("size()", x.size(), 4);
        checks.due("count(0)", x.count(0), 3);
        checks.due("count(1)", x.count(1), 7);
        checks.due("count(6)", x.count(6), 1);
        checks.due("count(8)", x.count(8), 5);
        checks.due("commit()", x.commit(), BlockStore.OK);
    }

    private static void newDiskIsBlank() {
        BlockStore[] stores = {Stores.up(16, 16, 4), Stores.down(16, 16, 4), Stores.unformatted(16, 16, 4)};
        for (BlockStore x : stores) {
            Stores.commit(x, 1, 8);
            x.begin();
            x.power(5);
            checks.due("disk(16, 16, 4)", x.disk(16, 16, 4), true);
            checks.due("state()", x.state(), 1);
            checks.due("count(0)", x.count(0), 0);
            checks.due("count(1)", x.count(1), 0);
            for (int b = 0; b < 16; b++) {
                checks.dueZeroBlock(x, b, 16);
            }
            checks.due("recover()", x.recover(), BlockStore.UNFORMATTED);
            checks.due("format()", x.format(), BlockStore.OK);
            checks.due("count(3)", x.count(3), 1);
            checks.due("count(6)", x.count(6), BlockStore.NO_TRANSACTION);
            checks.due("size()", x.size(), 0);
        }
    }

    /** A new object for each block: 64 blocks of 40 words are more calls than one object has. */
    private static void smallerAndLargerDisks() {
        for (int b = 0; b < 64; b++) {
            BlockStore x = Stores.up(40, 64, 8);
            Stores.commit(x, 1, 40);
            x.checkpoint();
            checks.due("disk(16, 16, 4)", x.disk(16, 16, 4), true);
            checks.due("disk(64, 40, 9)", x.disk(64, 40, 9), true);
            checks.dueZeroBlock(x, b, 40);
            checks.due("count(8)", x.count(8), 27);
        }
    }
}
