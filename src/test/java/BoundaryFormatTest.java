/** Promise 3: format, from each state, and what is gone behind it. */
final class BoundaryFormatTest implements Answers {
    private static final Sentences says = new Sentences("BoundaryFormatTest");

    public static void main(String[] args) {
        states();
        epoch();
        whatWasIsGone();
        says.end();
    }

    private static void states() {
        says.of(3, "NONE WITHOUT a disk, which it stays", x -> x.due("format()", NONE).due("state()", IS_WITHOUT)
                .due("count(0)", 0));
        says.of(3, "OK while UNFORMATTED: UP then, empty, PLACE 0, no transaction", x -> x.disk(16, 16, 4)
                .due("format()", OK).due("state()", IS_UP).due("size()", 0).due("count(2)", 0)
                .due("count(5)", 0).due("count(6)", NO_TRANSACTION).due("count(7)", 0));
        says.of(3, "OK while UP, empty as it is", x -> x.up(16, 16, 4).due("format()", OK)
                .due("state()", IS_UP).due("count(0)", 4));
        says.of(3, "OK in a transaction, which is gone", x -> x.up(16, 16, 4)
                .all(OK, "begin()", "put(1, 1)", "format()").due("count(6)", NO_TRANSACTION)
                .due("commit()", NO_TRANSACTION).due("size()", 0).due("begin()", OK).due("count(6)", 0)
                .due("has(1)", FALSE));
        says.of(3, "DOWN while DOWN, nothing is written", x -> x.up(16, 16, 4).commit(1, 1).due("power(1)", OK)
                .due("recover()", DOWN).due("format()", DOWN).due("count(0)", 3).due("state()", IS_DOWN)
                .due("recover()", OK).due("get(1)", 10));
        says.of(3, "it writes the HEAD alone", x -> x.disk(16, 16, 4).due("format()", OK).due("count(0)", 2)
                .zeroBlock(1, 16).zeroBlock(4, 16).zeroBlock(5, 16).zeroBlock(15, 16));
    }

    private static void epoch() {
        says.of(3, "EPOCH one more than what stands there: 0 on a new disk", x -> x.disk(16, 16, 4)
                .due("word(0, 1)", 0).due("format()", OK).due("word(0, 1)", 1).due("count(3)", 1));
        says.of(3, "EPOCH one more than what stands there: behind a checkpoint", x -> x.up(16, 16, 4)
                .all(OK, "checkpoint()", "checkpoint()", "format()").due("count(3)", 4));
        says.of(3, "EPOCH one more than what stands there: behind a format that failed at its second write",
                x -> x.up(16, 16, 4).due("power(2)", OK).due("format()", DOWN).due("word(0, 1)", 2)
                        .due("recover()", UNFORMATTED).due("format()", OK).due("count(3)", 3));
        says.of(3, "EPOCH one more than what stands there: behind two formats that failed so", x -> x
                .disk(16, 16, 4).due("power(2)", OK).due("format()", DOWN).due("recover()", UNFORMATTED)
                .due("power(2)", OK).due("format()", DOWN).due("word(0, 1)", 2).due("word(0, 0)", 0)
                .due("recover()", UNFORMATTED).due("format()", OK).block(0, 16, MARK, 3, 1));
        says.of(3, "EPOCH one more than what stands there: behind a format that failed at its first write",
                x -> x.up(16, 16, 4).due("power(1)", OK).due("format()", DOWN).due("word(0, 1)", 1)
                        .due("recover()", OK).due("format()", OK).due("count(3)", 2));
        says.of(3, "BOOT 1 again", x -> x.up(16, 16, 4).all(OK, "recover()", "recover()", "format()")
                .due("count(4)", 1).due("word(0, 2)", 1));
        says.of(3, "AREA 0 again, and no keys", x -> x.up(16, 16, 4).commit(1, 7).due("checkpoint()", OK)
                .due("word(0, 3)", 1).due("format()", OK).block(0, 16, MARK, 3, 1, 0, 0, 0)
                .commit(1, 1).due("checkpoint()", OK).block(0, 16, MARK, 4, 1, 1, 10, 1));
    }

    private static void whatWasIsGone() {
        says.of(3, "what was is gone: keys in the log", x -> x.up(16, 16, 4).commit(1, 3).due("format()", OK)
                .due("size()", 0).due("has(1)", FALSE).due("recover()", OK).due("size()", 0)
                .due("count(2)", 0).due("count(5)", 0));
        says.of(3, "what was is gone: keys in the tree", x -> x.up(16, 16, 4).commit(1, 3)
                .all(OK, "checkpoint()", "format()").due("size()", 0).due("recover()", OK).due("size()", 0));
        says.of(3, "what was is gone: PLACE and the records' number", x -> x.up(16, 16, 4).commit(1, 3)
                .commit(4, 6).due("format()", OK).due("count(2)", 0).due("count(5)", 0).commit(9, 9)
                .due("count(2)", 1).block(1, 16, 2, 1, 0, 1, 1, 1, 9, 90).due("recover()", OK)
                .due("size()", 1).due("count(2)", 1));
        says.of(3, "what was is gone: a full log has room again", x -> x.up(16, 16, 4).commit(1, 11)
                .all(OK, "begin()", "put(1, 1)").due("commit()", FULL).due("format()", OK).commit(1, 11)
                .due("count(2)", 4));
    }
}
