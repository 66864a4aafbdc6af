/** Promise 11: checkpoint, where it is refused, empty, just fits and does not. */
final class BoundaryCheckpointTest implements Answers {
    private static final Sentences says = new Sentences("BoundaryCheckpointTest");

    public static void main(String[] args) {
        inTransaction();
        full();
        fullAndAllStays();
        areas();
        behind();
        says.end();
    }

    private static void inTransaction() {
        says.of(11, "IN_TRANSACTION, without changes", x -> x.up(16, 16, 4).due("begin()", OK)
                .due("checkpoint()", IN_TRANSACTION).due("count(0)", 2).due("count(3)", 1));
        says.of(11, "IN_TRANSACTION: the changes stay", x -> x.up(16, 16, 4).all(OK, "begin()", "put(1, 1)")
                .due("checkpoint()", IN_TRANSACTION).due("count(6)", 1).due("commit()", OK).due("get(1)", 1));
        says.of(11, "IN_TRANSACTION is ahead of FULL", x -> x.up(16, 16, 11).commit(1, 7).due("begin()", OK)
                .due("checkpoint()", IN_TRANSACTION).due("abort()", OK).due("checkpoint()", FULL));
        says.of(11, "OK behind a commit and an abort", x -> x.up(16, 16, 4).commit(1, 1)
                .due("checkpoint()", OK).all(OK, "begin()", "abort()", "checkpoint()"));
    }

    /** Areas of 2 blocks hold one leaf (6 keys); of 3, two leaves and a node (12); of 5, four leaves (24). */
    private static void fits(int blocks, int log, int keys) {
        says.of(11, "not FULL: " + keys + " keys in an AREA of half " + (blocks - 1 - log) + " blocks", x -> {
            x.up(blocks, 16, log).commit(1, keys).due("checkpoint()", OK).due("count(3)", 2)
                    .due("count(2)", 0).due("recover()", OK).due("size()", keys).due("checkpoint()", OK)
                    .due("recover()", OK).due("size()", keys).due("sum(MIN, MAX, 3)", keys);
        });
    }

    private static void full(int blocks, int log, int keys) {
        says.of(11, "FULL: " + keys + " keys in an AREA of half " + (blocks - 1 - log) + " blocks", x -> x
                .up(blocks, 16, log).commit(1, keys).due("checkpoint()", FULL).due("count(3)", 1)
                .due("recover()", OK).due("size()", keys));
    }

    private static void full() {
        fits(16, 11, 6);
        full(16, 11, 7);
        fits(17, 11, 6);
        full(17, 11, 7);
        fits(18, 11, 7);
        fits(18, 11, 12);
        full(18, 11, 13);
        fits(19, 11, 12);
        full(19, 11, 13);
        fits(22, 11, 24);
        full(22, 11, 25);
        full(16, 11, 40);
        says.of(11, "not FULL: just as many blocks as the largest tree of AREAS of 10 needs", x -> x
                .up(35, 16, 14).due("count(8)", 10).commit(1, 40).due("count(7)", 10).due("checkpoint()", OK));
        says.of(11, "FULL: one block more than AREAS of 9 have", x -> x.up(33, 16, 14).due("count(8)", 9)
                .commit(1, 37).due("count(7)", 10).due("checkpoint()", FULL));
    }

    private static void fullAndAllStays() {
        says.of(11, "FULL, all stays: no write, EPOCH, PLACE, records, keys, power", x -> x.up(16, 16, 11)
                .commit(1, 6).due("checkpoint()", OK).commit(7, 7).due("power(1)", OK)
                .due("checkpoint()", FULL).due("count(0)", 7).due("count(1)", 1).due("count(2)", 1)
                .due("count(3)", 2).due("count(4)", 1).due("count(5)", 1).due("count(7)", 3).due("size()", 7)
                .due("state()", IS_UP).block(0, 16, MARK, 2, 1, 1, 14, 6).zeroBlock(12, 16).zeroBlock(13, 16));
        says.of(11, "FULL, all stays: the store goes on, and fits again", x -> x.up(16, 16, 11).commit(1, 7)
                .due("checkpoint()", FULL).due("checkpoint()", FULL).remove(3).due("checkpoint()", OK)
                .block(14, 16, 1, 6, 1, 10, 2, 20, 4, 40, 5, 50, 6, 60, 7, 70).due("recover()", OK)
                .due("size()", 6));
    }

    private static void areas() {
        says.of(11, "the other AREA than the HEAD tells: 1, 0, 1", x -> x.up(16, 16, 4).commit(1, 1)
                .due("checkpoint()", OK).due("word(0, 3)", 1).due("word(0, 4)", 10).due("checkpoint()", OK)
                .due("word(0, 3)", 0).due("word(0, 4)", 5).due("checkpoint()", OK).due("word(0, 3)", 1)
                .due("word(0, 4)", 10));
        says.of(11, "the other AREA than the HEAD tells: 1 behind each format", x -> x.up(16, 16, 4)
                .all(OK, "format()", "checkpoint()").due("word(0, 3)", 1).all(OK, "format()", "checkpoint()")
                .due("word(0, 3)", 1).due("count(3)", 5));
        says.of(11, "the other AREA: the same one again behind a checkpoint that failed", x -> x
                .up(16, 16, 4).commit(1, 1).due("power(2)", OK).due("checkpoint()", DOWN)
                .all(OK, "recover()", "checkpoint()").due("word(0, 3)", 1).due("word(0, 4)", 10)
                .zeroBlock(5, 16));
        says.of(11, "the other AREA: AREAS take turns without keys, too", x -> x.up(16, 16, 4)
                .due("checkpoint()", OK).due("word(0, 3)", 1).due("checkpoint()", OK).due("word(0, 3)", 0));
        says.of(11, "the tree that the HEAD tells of is not touched", x -> x.up(16, 16, 4).commit(1, 7)
                .due("checkpoint()", OK).commit(8, 8).due("power(2)", OK).due("checkpoint()", DOWN)
                .block(11, 16, 1, 1, 7, 70).block(12, 16, 2, 2, 1, 10, 7, 11));
    }

    private static void behind() {
        says.of(11, "EPOCH one more, BOOT as it was", x -> x.up(16, 16, 4).all(OK, "recover()", "recover()",
                "checkpoint()").due("count(3)", 2).due("count(4)", 3).block(0, 16, MARK, 2, 3, 1));
        says.of(11, "PLACE is 0 then, no records", x -> x.up(16, 16, 4).commit(1, 14).due("count(2)", 4)
                .due("checkpoint()", OK).due("count(2)", 0).due("count(5)", 0).commit(1, 14)
                .due("count(2)", 4));
        says.of(11, "the HEAD is the last write, one more than the tree's blocks", x -> x.up(16, 16, 4)
                .commit(1, 7).due("count(0)", 4).due("checkpoint()", OK).due("count(0)", 8));
        says.of(11, "the committed map stays, and no call is needed ahead of it", x -> x.up(16, 16, 4)
                .commit(1, 7).due("checkpoint()", OK).due("size()", 7).due("get(7)", 70)
                .due("count(7)", 3).due("count(6)", NO_TRANSACTION));
        says.of(11, "again at once: written anew", x -> x.up(16, 16, 4).commit(1, 1)
                .all(OK, "checkpoint()", "checkpoint()").due("count(0)", 7).due("count(3)", 3)
                .block(5, 16, 1, 1, 1, 10));
    }
}
