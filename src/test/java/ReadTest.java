/** Promises 12 to 16: get, has, size, key and sum. */
final class ReadTest {
    private static final Checks checks = new Checks("ReadTest");
    private static final int LEAST = Integer.MIN_VALUE;
    private static final int MOST = Integer.MAX_VALUE;

    public static void main(String[] args) {
        BlockStore empty = Stores.up(16, 16, 4);
        nothing(empty);
        BlockStore x = filled();
        getAndHas(x);
        sizeAndKey(x);
        sum(x);
        x.commit();
        getAndHas(x);
        sizeAndKey(x);
        sum(x);
        x.recover();
        x.checkpoint();
        x.recover();
        getAndHas(x);
        sizeAndKey(x);
        sum(x);
        checks.end();
    }

    /** Some keys committed, some only in the transaction: what is SEEN is the same before and behind its commit. */
    private static BlockStore filled() {
        BlockStore x = Stores.up(40, 16, 12);
        x.begin();
        x.put(LEAST, MOST);
        x.put(-4, -40);
        x.put(0, 5);
        x.put(3, 7);
        x.put(8, 1);
        x.commit();
        x.begin();
        x.put(MOST, MOST);
        x.put(5, MOST);
        x.put(0, 0);
        x.remove(3);
        x.remove(8);
        return x;
    }

    private static void nothing(BlockStore x) {
        checks.due("get(0)", x.get(0), 0);
        checks.due("has(0)", x.has(0), false);
        checks.due("size()", x.size(), 0);
        checks.due("key(0)", x.key(0), 0);
        for (int what = -1; what <= 4; what++) {
            checks.due("sum(.., " + what + ")", x.sum(LEAST, MOST, what), 0);
        }
    }

    private static void getAndHas(BlockStore x) {
        int[] keys = {LEAST, -4, 0, 5, MOST};
        int[] values = {MOST, -40, 0, MOST, MOST};
        for (int i = 0; i < keys.length; i++) {
            checks.due("get(" + keys[i] + ")", x.get(keys[i]), values[i]);
            checks.due("has(" + keys[i] + ")", x.has(keys[i]), true);
        }
        int[] others = {LEAST + 1, -5, -3, -1, 1, 3, 4, 6, 8, MOST - 1};
        for (int key : others) {
            checks.due("get(" + key + ")", x.get(key), 0);
            checks.due("has(" + key + ")", x.has(key), false);
        }
    }

    private static void sizeAndKey(BlockStore x) {
        checks.due("size()", x.size(), 5);
        int[] keys = {LEAST, -4, 0, 5, MOST};
        for (int i = 0; i < keys.length; i++) {
            checks.due("key(" + i + ")", x.key(i), keys[i]);
        }
        int[] others = {-1, 5, 6, LEAST, MOST};
        for (int i : others) {
            checks.due("key(" + i + ")", x.key(i), 0);
        }
    }

    private static void sum(BlockStore x) {
        long three = 3L * MOST;
        dueSums(x, LEAST, MOST, 5, three - 40, LEAST, MOST);
        dueSums(x, LEAST + 1, MOST, 4, 2L * MOST - 40, -4, MOST);
        dueSums(x, LEAST, MOST - 1, 4, 2L * MOST - 40, LEAST, 5);
        dueSums(x, -4, 5, 3, MOST - 40L, -4, 5);
        dueSums(x, -3, 4, 1, 0, 0, 0);
        dueSums(x, -4, -4, 1, -40, -4, -4);
        dueSums(x, LEAST, LEAST, 1, MOST, LEAST, LEAST);
        dueSums(x, MOST, MOST, 1, MOST, MOST, MOST);
        dueSums(x, 1, 4, 0, 0, 0, 0);
        dueSums(x, 5, -4, 0, 0, 0, 0);
        dueSums(x, MOST, LEAST, 0, 0, 0, 0);
        int[] others = {-1, 4, 5, LEAST, MOST};
        for (int what : others) {
            checks.due("sum(.., " + what + ")", x.sum(LEAST, MOST, what), 0);
        }
    }

    private static void dueSums(BlockStore x, int a, int b, long many, long values, long least, long most) {
        String call = "sum(" + a + ", " + b + ", ";
        checks.due(call + "0)", x.sum(a, b, 0), many);
        checks.due(call + "1)", x.sum(a, b, 1), values);
        checks.due(call + "2)", x.sum(a, b, 2), least);
        checks.due(call + "3)", x.sum(a, b, 3), most);
    }
}
