/** Promise 9: commit, where it is refused, empty, just fits and does not. */
final class BoundaryCommitTest implements Answers {
    private static final Sentences says = new Sentences("BoundaryCommitTest");

    public static void main(String[] args) {
        refused();
        withoutChanges();
        full();
        committed();
        says.end();
    }

    private static void refused() {
        says.of(9, "NO_TRANSACTION, nothing is written", x -> x.up(16, 16, 4).due("commit()", NO_TRANSACTION)
                .due("count(0)", 2).due("count(5)", 0));
        says.of(9, "NO_TRANSACTION behind a commit", x -> x.up(16, 16, 4).commit(1, 1)
                .due("commit()", NO_TRANSACTION).due("count(5)", 1));
        says.of(9, "NO_TRANSACTION behind an abort", x -> x.up(16, 16, 4)
                .all(OK, "begin()", "put(1, 1)", "abort()").due("commit()", NO_TRANSACTION).due("size()", 0));
        says.of(9, "NO_TRANSACTION is ahead of FULL", x -> x.up(16, 16, 4).commit(1, 11)
                .due("commit()", NO_TRANSACTION));
    }

    private static void withoutChanges() {
        says.of(9, "without changes none: no write, no record, the transaction is over", x -> x.up(16, 16, 4)
                .all(OK, "begin()", "commit()").due("count(0)", 2).due("count(2)", 0).due("count(5)", 0)
                .due("count(6)", NO_TRANSACTION).zeroBlock(1, 16));
        says.of(9, "without changes none: OK in a full log, too", x -> x.up(16, 16, 4).commit(1, 11)
                .due("count(2)", 4).all(OK, "begin()", "commit()").due("count(2)", 4)
                .due("count(6)", NO_TRANSACTION));
        says.of(9, "without changes none: the next record's number is not moved", x -> x.up(16, 16, 4)
                .commit(1, 1).all(OK, "begin()", "commit()").commit(2, 2).due("word(2, 1)", 2)
                .due("recover()", OK).due("size()", 2));
    }

    /** Blocks of 16 words: 3 changes need one block, 4 to 7 two, 8 to 10 three, 11 to 14 four, 15 five. */
    private static void full() {
        says.of(9, "not FULL: an empty log has just so many blocks", x -> x.up(16, 16, 4).commit(1, 14)
                .due("count(2)", 4).due("size()", 14));
        says.of(9, "FULL: an empty log has one block too few", x -> x.up(16, 16, 4).due("begin()", OK)
                .puts(1, 15).due("commit()", FULL).due("count(2)", 0).due("count(0)", 2).zeroBlock(1, 16)
                .zeroBlock(5, 16));
        says.of(9, "not FULL: the log has just one block left", x -> x.up(16, 16, 4).commit(1, 10)
                .due("count(2)", 3).commit(21, 23).due("count(2)", 4).due("size()", 13));
        says.of(9, "FULL: the log has one block left, two are needed", x -> x.up(16, 16, 4).commit(1, 10)
                .due("begin()", OK).puts(21, 24).due("commit()", FULL).due("count(2)", 3).zeroBlock(4, 16));
        says.of(9, "FULL: the log has no block left", x -> x.up(16, 16, 4).commit(1, 11).due("begin()", OK)
                .puts(21, 21).due("commit()", FULL).due("count(2)", 4).due("count(5)", 1));
        says.of(9, "FULL: the transaction goes on, with its changes", x -> x.up(16, 16, 4).commit(1, 11)
                .all(OK, "begin()", "put(20, 1)", "remove(1)").due("commit()", FULL).due("count(6)", 2)
                .due("has(20)", TRUE).due("has(1)", FALSE).due("size()", 11).due("put(21, 1)", OK)
                .due("count(6)", 3).due("commit()", FULL).due("checkpoint()", IN_TRANSACTION)
                .due("abort()", OK).due("size()", 11).due("has(20)", FALSE));
        says.of(9, "FULL: what is committed stays", x -> x.up(16, 16, 4).commit(1, 11)
                .all(OK, "begin()", "put(20, 1)").due("commit()", FULL).due("recover()", OK).due("size()", 11)
                .due("has(20)", FALSE).due("count(5)", 1));
        says.of(9, "FULL no more behind a checkpoint", x -> x.up(16, 16, 4).commit(1, 11)
                .all(OK, "begin()", "put(20, 1)").due("commit()", FULL).all(OK, "abort()", "checkpoint()")
                .commit(20, 20).due("count(2)", 1).due("size()", 12));
        says.of(9, "FULL: not behind a smaller transaction that fits", x -> x.up(16, 16, 4).commit(1, 10)
                .due("begin()", OK).puts(21, 24).due("commit()", FULL).due("abort()", OK).commit(21, 23)
                .block(4, 16, 1, 2, 0, 1, 3, 1, 21, 210, 1, 22, 220, 1, 23, 230));
        says.of(9, "FULL of blocks of 64 words: 59 ints in each, 78 changes fit into 4 blocks", x -> x
                .up(16, 64, 4).commit(1, 78).due("count(2)", 4));
        says.of(9, "FULL of blocks of 64 words: 79 changes do not fit into 4 blocks", x -> x
                .up(16, 64, 4).due("begin()", OK).puts(1, 79).due("commit()", FULL).due("count(2)", 0));
    }

    private static void committed() {
        says.of(9, "the committed map has the changes, the transaction is over", x -> x.up(16, 16, 4)
                .commit(1, 2).all(OK, "begin()", "remove(1)", "put(2, 5)", "put(3, 6)", "commit()")
                .due("size()", 2).due("get(2)", 5).due("get(3)", 6).due("has(1)", FALSE)
                .due("count(6)", NO_TRANSACTION).due("abort()", NO_TRANSACTION).due("get(2)", 5));
        says.of(9, "PLACE is behind them", x -> x.up(16, 16, 4).commit(1, 7).due("count(2)", 2).commit(8, 8)
                .due("count(2)", 3).due("word(3, 1)", 2));
        says.of(9, "all keys may be removed", x -> x.up(16, 16, 4).commit(1, 2)
                .all(OK, "begin()", "remove(1)", "remove(2)", "commit()").due("size()", 0).due("count(7)", 0)
                .due("recover()", OK).due("size()", 0));
        says.of(9, "DOWN: the power failed, the transaction is gone", x -> x.up(16, 16, 4).commit(1, 1)
                .all(OK, "begin()", "put(1, 2)", "power(1)").due("commit()", DOWN).due("recover()", OK)
                .due("get(1)", 10).due("count(6)", NO_TRANSACTION));
    }
}
