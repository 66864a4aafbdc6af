/** Promises 6, 7, 8 and 10: begin, put, remove and abort, where they are refused or empty. */
final class BoundaryTransactionTest implements Answers {
    private static final Sentences says = new Sentences("BoundaryTransactionTest");

    public static void main(String[] args) {
        begin();
        put();
        putNotFull();
        remove();
        removeNotFull();
        abort();
        lastPromisedCall();
        says.end();
    }

    private static void begin() {
        says.of(6, "OK: a transaction without changes", x -> x.up(16, 16, 4).due("count(6)", NO_TRANSACTION)
                .due("begin()", OK).due("count(6)", 0));
        says.of(6, "IN_TRANSACTION, without changes", x -> x.up(16, 16, 4).due("begin()", OK)
                .due("begin()", IN_TRANSACTION).due("count(6)", 0).due("commit()", OK));
        says.of(6, "IN_TRANSACTION: the changes stay", x -> x.up(16, 16, 4).all(OK, "begin()", "put(1, 10)")
                .due("begin()", IN_TRANSACTION).due("count(6)", 1).due("get(1)", 10).due("commit()", OK)
                .due("get(1)", 10));
        says.of(6, "OK behind a commit, without the old changes", x -> x.up(16, 16, 4).commit(1, 1)
                .due("begin()", OK).due("count(6)", 0));
        says.of(6, "OK behind an abort, without the old changes", x -> x.up(16, 16, 4)
                .all(OK, "begin()", "put(1, 1)", "abort()", "begin()").due("count(6)", 0).due("has(1)", FALSE));
        says.of(6, "IN_TRANSACTION behind a commit that was FULL", x -> x.up(16, 16, 4).commit(1, 11)
                .all(OK, "begin()", "put(1, 1)").due("commit()", FULL).due("begin()", IN_TRANSACTION)
                .due("count(6)", 1));
    }

    private static void put() {
        says.of(7, "NO_TRANSACTION: nothing is put", x -> x.up(16, 16, 4).due("put(1, 1)", NO_TRANSACTION)
                .due("has(1)", FALSE).due("size()", 0).due("count(6)", NO_TRANSACTION));
        says.of(7, "NO_TRANSACTION behind a commit and an abort", x -> x.up(16, 16, 4).commit(1, 1)
                .due("put(2, 2)", NO_TRANSACTION).all(OK, "begin()", "abort()")
                .due("put(2, 2)", NO_TRANSACTION).due("size()", 1));
        String[] keys = {"MIN", "-1", "0", "1", "MAX"};
        for (String key : keys) {
            says.of(7, "OK for each int as a key: " + key, x -> x.up(16, 16, 4).due("begin()", OK)
                    .due("put(" + key + ", 7)", OK).due("get(" + key + ")", 7).due("size()", 1)
                    .all(OK, "commit()", "recover()").due("get(" + key + ")", 7));
            says.of(7, "OK for each int as a value: " + key, x -> x.up(16, 16, 4).due("begin()", OK)
                    .due("put(7, " + key + ")", OK).due("has(7)", TRUE).all(OK, "commit()", "checkpoint()",
                            "recover()").due("has(7)", TRUE).due("sum(7, 7, 1)", number(key)));
        }
        says.of(7, "the same key again is no change more", x -> x.up(16, 16, 4)
                .all(OK, "begin()", "put(1, 1)", "put(1, 2)").due("count(6)", 1).due("get(1)", 2)
                .due("size()", 1));
        says.of(7, "the value that it has is a change, too", x -> x.up(16, 16, 4).commit(1, 1)
                .all(OK, "begin()", "put(1, 10)").due("count(6)", 1).due("commit()", OK).due("count(2)", 2));
        says.of(7, "in the transaction alone: not committed yet", x -> x.up(16, 16, 4)
                .all(OK, "begin()", "put(1, 1)").due("count(7)", 0).due("count(0)", 2));
    }

    private static long number(String text) {
        return text.equals("MIN") ? MIN : text.equals("MAX") ? MAX : Integer.parseInt(text);
    }

    /** FULL is told for 600 changes, which no 512 calls make: ManyChangesLook goes there. */
    private static void putNotFull() {
        says.of(7, "not FULL: 508 changes, and none of this key", x -> x.up(512, 64, 128).due("begin()", OK)
                .puts(1, 509).compareCalls(512));
        says.of(7, "not FULL: 505 changes, all committed and recovered", x -> x.up(512, 64, 128)
                .due("begin()", OK).puts(1, 505).due("count(6)", 505).all(OK, "commit()", "recover()")
                .due("size()", 505));
    }

    private static void remove() {
        says.of(8, "NO_TRANSACTION: nothing is removed", x -> x.up(16, 16, 4).commit(1, 1)
                .due("remove(1)", NO_TRANSACTION).due("has(1)", TRUE));
        says.of(8, "NO_TRANSACTION is ahead of ABSENT", x -> x.up(16, 16, 4).due("remove(1)", NO_TRANSACTION));
        says.of(8, "ABSENT: the store is empty", x -> x.up(16, 16, 4).due("begin()", OK)
                .all(ABSENT, "remove(0)", "remove(MIN)", "remove(MAX)").due("count(6)", 0));
        says.of(8, "ABSENT: beside the keys that are SEEN", x -> x.up(16, 16, 4).commit(2, 3).due("begin()", OK)
                .all(ABSENT, "remove(1)", "remove(4)").due("count(6)", 0).due("size()", 2));
        says.of(8, "ABSENT: it was removed in the transaction", x -> x.up(16, 16, 4).commit(1, 1)
                .all(OK, "begin()", "remove(1)").due("remove(1)", ABSENT).due("count(6)", 1));
        says.of(8, "ABSENT: it was put and removed in the transaction", x -> x.up(16, 16, 4)
                .all(OK, "begin()", "put(1, 1)", "remove(1)").due("remove(1)", ABSENT).due("count(6)", 1));
        says.of(8, "OK: a key that is committed", x -> x.up(16, 16, 4).commit(1, 3)
                .all(OK, "begin()", "remove(2)").due("has(2)", FALSE).due("get(2)", 0).due("size()", 2)
                .due("key(1)", 3).due("count(6)", 1).due("count(7)", 1));
        says.of(8, "OK, a change, also of one that was put in it", x -> x.up(16, 16, 4)
                .all(OK, "begin()", "put(1, 1)", "remove(1)").due("count(6)", 1).due("has(1)", FALSE)
                .due("commit()", OK).due("count(2)", 1).due("count(5)", 1));
        says.of(8, "OK: the least and the greatest key", x -> x.up(16, 16, 4)
                .all(OK, "begin()", "put(MIN, 1)", "put(MAX, 1)", "commit()", "begin()", "remove(MIN)",
                        "remove(MAX)", "commit()").due("size()", 0).due("recover()", OK).due("size()", 0));
        says.of(8, "OK: a key whose value is 0", x -> x.up(16, 16, 4)
                .all(OK, "begin()", "put(4, 0)", "remove(4)").due("has(4)", FALSE));
        says.of(8, "OK: the key may be put and removed again", x -> x.up(16, 16, 4).commit(1, 1)
                .all(OK, "begin()", "remove(1)", "put(1, 2)", "remove(1)").due("count(6)", 1)
                .due("has(1)", FALSE));
    }

    private static void removeNotFull() {
        says.of(8, "not FULL: 505 changes, and none of this key", x -> x.up(512, 64, 128).commit(1000, 1000)
                .due("begin()", OK).puts(1, 505).due("remove(1000)", OK).compareCalls(512));
    }

    private static void abort() {
        says.of(10, "NO_TRANSACTION", x -> x.up(16, 16, 4).due("abort()", NO_TRANSACTION)
                .due("state()", IS_UP));
        says.of(10, "NO_TRANSACTION behind an abort and a commit", x -> x.up(16, 16, 4)
                .all(OK, "begin()", "abort()").due("abort()", NO_TRANSACTION).commit(1, 1)
                .due("abort()", NO_TRANSACTION).due("size()", 1));
        says.of(10, "OK without changes", x -> x.up(16, 16, 4).commit(1, 1).all(OK, "begin()", "abort()")
                .due("size()", 1).due("count(6)", NO_TRANSACTION));
        says.of(10, "OK: without its changes, put and removed", x -> x.up(16, 16, 4).commit(1, 3)
                .all(OK, "begin()", "put(1, 99)", "put(4, 40)", "remove(2)", "abort()").due("size()", 3)
                .due("get(1)", 10).due("get(2)", 20).due("has(4)", FALSE).due("count(0)", 3)
                .due("count(2)", 1));
        says.of(10, "OK behind a commit that was FULL", x -> x.up(16, 16, 4).commit(1, 11)
                .all(OK, "begin()", "put(20, 1)").due("commit()", FULL).due("abort()", OK).due("size()", 11)
                .due("checkpoint()", OK).commit(20, 20).due("size()", 12));
    }

    private static void lastPromisedCall() {
        says.of(7, "an object is used for at most 512 calls: the 512th answers, too", x -> {
            x.up(512, 64, 128).due("begin()", OK).puts(1, 506).all(OK, "commit()", "recover()")
                    .due("size()", 506);
            x.compareCalls(512);
        });
    }
}
