/** Promises 12 to 16: get, has, size, key and sum, at the ends of what is SEEN and of the ints. */
final class BoundaryReadTest implements Answers {
    private static final Sentences says = new Sentences("BoundaryReadTest");

    public static void main(String[] args) {
        get();
        has();
        size();
        key();
        sumEmpty();
        sumRange();
        sumValues();
        sumWhat();
        says.end();
    }

    /** Committed: MIN, -4, 0, 3, 8; in the transaction 3 and 8 are removed, 5 and MAX put, 0 changed. */
    private static Run seen(Run x) {
        return x.up(40, 16, 12).all(OK, "begin()", "put(MIN, MAX)", "put(-4, -40)", "put(0, 5)", "put(3, 7)",
                "put(8, 1)", "commit()", "begin()", "put(MAX, MAX)", "put(5, MAX)", "put(0, 0)", "remove(3)",
                "remove(8)");
    }

    private static void get() {
        says.of(12, "0 without: an empty store", x -> x.up(16, 16, 4)
                .all(0, "get(0)", "get(1)", "get(-1)", "get(MIN)", "get(MAX)"));
        says.of(12, "0 without: right beside the keys", x -> x.up(16, 16, 4).commit(2, 3)
                .all(0, "get(1)", "get(4)", "get(MIN)", "get(MAX)"));
        says.of(12, "0 without: removed in the transaction", x -> seen(x).all(0, "get(3)", "get(8)"));
        says.of(12, "the value SEEN: put in the transaction", x -> seen(x).due("get(5)", MAX));
        says.of(12, "the value SEEN: changed in the transaction", x -> seen(x).due("get(0)", 0)
                .due("abort()", OK).due("get(0)", 5));
        says.of(12, "the least and the greatest key", x -> seen(x).due("get(MIN)", MAX).due("get(MAX)", MAX));
        says.of(12, "the least and the greatest value", x -> x.up(16, 16, 4)
                .all(OK, "begin()", "put(1, MIN)", "put(2, MAX)", "commit()").due("get(1)", MIN)
                .due("get(2)", MAX));
    }

    private static void has() {
        says.of(13, "false in an empty store", x -> x.up(16, 16, 4)
                .all(FALSE, "has(0)", "has(MIN)", "has(MAX)"));
        says.of(13, "false right beside the keys", x -> x.up(16, 16, 4).commit(2, 3)
                .all(FALSE, "has(1)", "has(4)", "has(20)").all(TRUE, "has(2)", "has(3)"));
        says.of(13, "true for a key whose value is 0", x -> seen(x).due("has(0)", TRUE));
        says.of(13, "true for the key 0, false without it", x -> x.up(16, 16, 4).due("has(0)", FALSE)
                .all(OK, "begin()", "put(0, 0)").due("has(0)", TRUE).due("abort()", OK).due("has(0)", FALSE));
        says.of(13, "SEEN: put in the transaction", x -> seen(x).due("has(5)", TRUE).due("abort()", OK)
                .due("has(5)", FALSE));
        says.of(13, "SEEN: removed in the transaction", x -> seen(x).due("has(3)", FALSE).due("abort()", OK)
                .due("has(3)", TRUE));
        says.of(13, "the least and the greatest key", x -> seen(x).all(TRUE, "has(MIN)", "has(MAX)")
                .due("abort()", OK).due("has(MAX)", FALSE));
    }

    private static void size() {
        says.of(14, "0 in an empty store", x -> x.up(16, 16, 4).due("size()", 0));
        says.of(14, "0 when all keys are removed in the transaction", x -> x.up(16, 16, 4).commit(1, 2)
                .all(OK, "begin()", "remove(1)", "remove(2)").due("size()", 0).due("abort()", OK)
                .due("size()", 2));
        says.of(14, "SEEN: with what the transaction put and removed", x -> seen(x).due("size()", 5)
                .all(OK, "put(6, 6)").due("size()", 6).all(OK, "remove(5)").due("size()", 5));
        says.of(14, "a key that is put again counts once", x -> x.up(16, 16, 4).commit(1, 1)
                .all(OK, "begin()", "put(1, 2)", "put(1, 3)").due("size()", 1));
    }

    private static void key() {
        says.of(15, "0 without: an empty store", x -> x.up(16, 16, 4)
                .all(0, "key(0)", "key(-1)", "key(1)", "key(MIN)", "key(MAX)"));
        says.of(15, "from 0 on: the least key is 0", x -> seen(x).due("key(0)", MIN));
        says.of(15, "the last one is size - 1", x -> seen(x).due("key(4)", MAX));
        says.of(15, "0 without: i is size", x -> seen(x).due("key(5)", 0).due("key(6)", 0));
        says.of(15, "0 without: i is below 0", x -> seen(x).due("key(-1)", 0).due("key(MIN)", 0));
        says.of(15, "0 without: i is the greatest int", x -> seen(x).due("key(MAX)", 0));
        says.of(15, "ascending, those below 0 first", x -> seen(x).due("key(1)", -4).due("key(2)", 0)
                .due("key(3)", 5));
        says.of(15, "0 without, where a key was: removed in the transaction", x -> x.up(16, 16, 4)
                .commit(1, 2).all(OK, "begin()", "remove(2)").due("key(0)", 1).due("key(1)", 0));
    }

    private static void sumEmpty() {
        for (int what = 0; what <= 3; what++) {
            int w = what;
            says.of(16, "what " + w + ": 0 without any, an empty store",
                    x -> x.up(16, 16, 4).due("sum(MIN, MAX, " + w + ")", 0));
            says.of(16, "what " + w + ": 0 without any, between two keys",
                    x -> seen(x).due("sum(1, 4, " + w + ")", 0).due("sum(6, 2147483646, " + w + ")", 0));
            says.of(16, "what " + w + ": 0 without any, below and above all keys", x -> x.up(16, 16, 4)
                    .commit(2, 3).due("sum(MIN, 1, " + w + ")", 0).due("sum(4, MAX, " + w + ")", 0));
            says.of(16, "what " + w + ": 0 without any, a above b", x -> seen(x).due("sum(5, 0, " + w + ")", 0)
                    .due("sum(5, 4, " + w + ")", 0).due("sum(MAX, MIN, " + w + ")", 0));
        }
    }

    private static void sums(String sentence, String range, long many, long values, long least, long most) {
        says.of(16, sentence + ": " + range, x -> seen(x).due("sum(" + range + ", 0)", many)
                .due("sum(" + range + ", 1)", values).due("sum(" + range + ", 2)", least)
                .due("sum(" + range + ", 3)", most));
    }

    private static void sumRange() {
        sums("all ints", "MIN, MAX", 5, 3L * MAX - 40, MIN, MAX);
        sums("not below a: a key that is a", "-4, 4", 2, -40, -4, 0);
        sums("not below a: a key that is a - 1", "-3, 4", 1, 0, 0, 0);
        sums("not above b: a key that is b", "-3, 5", 2, MAX, 0, 5);
        sums("not above b: a key that is b + 1", "-3, 4", 1, 0, 0, 0);
        sums("a is b, a key", "-4, -4", 1, -40, -4, -4);
        sums("a is b, no key", "1, 1", 0, 0, 0, 0);
        sums("a is b, the least int", "MIN, MIN", 1, MAX, MIN, MIN);
        sums("a is b, the greatest int", "MAX, MAX", 1, MAX, MAX, MAX);
        sums("not the least int", "-2147483647, MAX", 4, 2L * MAX - 40, -4, MAX);
        sums("not the greatest int", "MIN, 2147483646", 4, 2L * MAX - 40, MIN, 5);
    }

    private static void sumValues() {
        says.of(16, "what 1: a sum above the ints is a long", x -> x.up(16, 16, 4)
                .all(OK, "begin()", "put(1, MAX)", "put(2, MAX)", "put(3, 1)").due("sum(1, 3, 1)", 4294967295L)
                .due("sum(2, 3, 1)", 2147483648L));
        says.of(16, "what 1: a sum below the ints is a long", x -> x.up(16, 16, 4)
                .all(OK, "begin()", "put(1, MIN)", "put(2, MIN)", "put(3, -1)").due("sum(1, 3, 1)", -4294967297L)
                .due("sum(2, 3, 1)", -2147483649L));
        says.of(16, "what 1: values that make 0 together", x -> x.up(16, 16, 4)
                .all(OK, "begin()", "put(1, 5)", "put(2, -5)").due("sum(1, 2, 1)", 0).due("sum(1, 2, 0)", 2));
        says.of(16, "SEEN: behind an abort the committed ones", x -> seen(x).due("abort()", OK)
                .due("sum(MIN, MAX, 0)", 5).due("sum(MIN, MAX, 1)", MAX - 27L).due("sum(MIN, MAX, 3)", 8));
    }

    private static void sumWhat() {
        String[] others = {"-1", "4", "5", "MIN", "MAX"};
        for (String what : others) {
            says.of(16, "0 for another what: " + what, x -> seen(x).due("sum(MIN, MAX, " + what + ")", 0)
                    .due("sum(5, 5, " + what + ")", 0));
        }
    }
}
