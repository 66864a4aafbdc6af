/** Promises 6, 7, 8 and 10: begin, put, remove and abort. */
final class TransactionTest {
    private static final Checks checks = new Checks("TransactionTest");

    public static void main(String[] args) {
        begin();
        put();
        remove();
        abort();
        checks.end();
    }

    private static void begin() {
        BlockStore x = Stores.up(16, 16, 4);
        checks.due("begin()", x.begin(), BlockStore.OK);
        checks.due("count(6)", x.count(6), 0);
        x.put(1, 1);
        checks.due("begin()", x.begin(), BlockStore.IN_TRANSACTION);
        checks.due("count(6)", x.count(6), 1);
        x.commit();
        checks.due("begin()", x.begin(), BlockStore.OK);
        checks.due("count(6)", x.count(6), 0);
        x.abort();
        checks.due("begin()", x.begin(), BlockStore.OK);
    }

    private static void put() {
        BlockStore x = Stores.up(16, 16, 4);
        checks.due("put(1, 1)", x.put(1, 1), BlockStore.NO_TRANSACTION);
        x.begin();
        int[] keys = {0, Integer.MAX_VALUE, -1, Integer.MIN_VALUE, 1, 0};
        for (int key : keys) {
            checks.due("put(" + key + ", ..)", x.put(key, ~key), BlockStore.OK);
            checks.due("get(" + key + ")", x.get(key), ~key);
        }
        checks.due("count(6)", x.count(6), 5);
        checks.due("put(1, 0)", x.put(1, 0), BlockStore.OK);
        checks.due("get(1)", x.get(1), 0);
        checks.due("has(1)", x.has(1), true);
        checks.due("key(0)", x.key(0), Integer.MIN_VALUE);
        checks.due("key(4)", x.key(4), Integer.MAX_VALUE);
        checks.due("count(7)", x.count(7), 0);
    }

    private static void remove() {
        BlockStore x = Stores.up(16, 16, 4);
        Stores.commit(x, 1, 3);
        checks.due("remove(1)", x.remove(1), BlockStore.NO_TRANSACTION);
        checks.due("remove(77)", x.remove(77), BlockStore.NO_TRANSACTION);
        x.begin();
        checks.due("remove(4)", x.remove(4), BlockStore.ABSENT);
        checks.due("count(6)", x.count(6), 0);
        checks.due("remove(2)", x.remove(2), BlockStore.OK);
        checks.due("remove(2)", x.remove(2), BlockStore.ABSENT);
        checks.due("has(2)", x.has(2), false);
        checks.due("get(2)", x.get(2), 0);
        checks.due("put(9, 9)", x.put(9, 9), BlockStore.OK);
        checks.due("remove(9)", x.remove(9), BlockStore.OK);
        checks.due("count(6)", x.count(6), 2);
        checks.due("put(2, 22)", x.put(2, 22), BlockStore.OK);
        checks.due("count(6)", x.count(6), 2);
        checks.due("commit()", x.commit(), BlockStore.OK);
        checks.dueBlock(x, 2, 16, 1, 2, 0, 1, 2, 1, 2, 22, 2, 9, 0);
        checks.due("size()", x.size(), 3);
        checks.due("recover()", x.recover(), BlockStore.OK);
        checks.due("get(2)", x.get(2), 22);
        checks.due("has(9)", x.has(9), false);
    }

    private static void abort() {
        BlockStore x = Stores.up(16, 16, 4);
        Stores.commit(x, 1, 3);
        checks.due("abort()", x.abort(), BlockStore.NO_TRANSACTION);
        x.begin();
        x.put(1, 99);
        x.put(4, 40);
        x.remove(2);
        checks.due("abort()", x.abort(), BlockStore.OK);
        checks.due("abort()", x.abort(), BlockStore.NO_TRANSACTION);
        checks.due("size()", x.size(), 3);
        checks.due("get(1)", x.get(1), 10);
        checks.due("has(2)", x.has(2), true);
        checks.due("has(4)", x.has(4), false);
        checks.due("count(0)", x.count(0), 3);
        checks.due("count(2)", x.count(2), 1);
    }
}
