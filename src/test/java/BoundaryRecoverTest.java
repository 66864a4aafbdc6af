/** Promise 5: recover: which HEAD is one, which records are WHOLE, and where the log ends. */
final class BoundaryRecoverTest implements Answers {
    private static final Sentences says = new Sentences("BoundaryRecoverTest");

    public static void main(String[] args) {
        head();
        states();
        emptyAndFull();
        torn();
        stale();
        behind();
        says.end();
    }

    private static void head() {
        says.of(5, "the HEAD is not GOOD: UNFORMATTED, nothing is written", x -> x.disk(16, 16, 4)
                .due("recover()", UNFORMATTED).due("state()", IS_UNFORMATTED).due("count(0)", 0)
                .zeroBlock(0, 16));
        says.of(5, "the HEAD is without MARK: UNFORMATTED, nothing is written", x -> x.up(16, 16, 4)
                .commit(1, 1).due("power(2)", OK).due("format()", DOWN).due("recover()", UNFORMATTED)
                .due("state()", IS_UNFORMATTED).due("count(0)", 4).block(0, 16, 0, 2).due("size()", 0));
        says.of(5, "UNFORMATTED again and again, until format", x -> x.disk(16, 16, 4)
                .all(UNFORMATTED, "recover()", "recover()").due("format()", OK).due("recover()", OK));
        says.of(5, "the HEAD is written as it is with BOOT one more", x -> x.up(16, 16, 4).commit(1, 7)
                .due("checkpoint()", OK).commit(8, 8).due("recover()", OK).due("count(0)", 10)
                .block(0, 16, MARK, 2, 2, 1, 12, 7).due("recover()", OK).block(0, 16, MARK, 2, 3, 1, 12, 7));
    }

    private static void states() {
        says.of(5, "NONE WITHOUT a disk", x -> x.due("recover()", NONE).due("state()", IS_WITHOUT));
        says.of(5, "UP, too: a transaction is gone", x -> x.up(16, 16, 4).commit(1, 2)
                .all(OK, "begin()", "put(1, 99)", "remove(2)", "put(3, 3)", "recover()").due("size()", 2)
                .due("get(1)", 10).due("has(2)", TRUE).due("has(3)", FALSE).due("count(6)", NO_TRANSACTION)
                .due("commit()", NO_TRANSACTION).due("begin()", OK).due("count(6)", 0));
        says.of(5, "UP, too: what is committed stays", x -> x.up(16, 16, 4).commit(1, 7).due("recover()", OK)
                .due("state()", IS_UP).due("size()", 7).due("count(2)", 2).due("count(5)", 1));
        says.of(5, "UNFORMATTED, too", x -> x.disk(16, 16, 4).due("recover()", UNFORMATTED));
        says.of(5, "DOWN, in a transaction that did not commit: it is gone", x -> x.up(16, 16, 4)
                .commit(1, 2).all(OK, "begin()", "put(3, 3)", "power(1)").due("commit()", DOWN)
                .due("recover()", OK).due("state()", IS_UP).due("size()", 2)
                .due("count(6)", NO_TRANSACTION).due("commit()", NO_TRANSACTION));
        says.of(5, "behind a FULL commit: its transaction is gone", x -> x.up(16, 16, 4).commit(1, 11)
                .all(OK, "begin()", "put(20, 1)").due("commit()", FULL).due("recover()", OK).due("size()", 11)
                .due("count(6)", NO_TRANSACTION));
    }

    private static void emptyAndFull() {
        says.of(5, "no tree and no record: an empty map, PLACE 0", x -> x.up(16, 16, 4).due("recover()", OK)
                .due("size()", 0).due("count(2)", 0).due("count(5)", 0));
        says.of(5, "a tree and no record: PLACE 0", x -> x.up(16, 16, 4).commit(1, 7).due("checkpoint()", OK)
                .due("recover()", OK).due("size()", 7).due("count(2)", 0).due("count(5)", 0));
        says.of(5, "a tree without keys and a record", x -> x.up(16, 16, 4).due("checkpoint()", OK)
                .commit(1, 1).due("recover()", OK).due("size()", 1).due("count(2)", 1));
        says.of(5, "a log that is full of one record", x -> x.up(16, 16, 4).commit(1, 14).due("count(2)", 4)
                .due("recover()", OK).due("size()", 14).due("count(2)", 4).due("count(5)", 1));
        says.of(5, "a log that is full of records of one block", x -> x.up(16, 16, 4).commit(1, 1)
                .commit(2, 2).commit(3, 3).commit(4, 4).due("recover()", OK).due("size()", 4)
                .due("count(2)", 4).due("count(5)", 4).all(OK, "begin()", "put(5, 5)").due("commit()", FULL));
        says.of(5, "behind a full log the AREA is not read as a record", x -> x.up(16, 16, 4).commit(1, 7)
                .all(OK, "checkpoint()", "checkpoint()").commit(11, 24).due("recover()", OK)
                .due("size()", 21).due("count(2)", 4).due("count(5)", 1));
        says.of(5, "a record that removes all of the tree", x -> x.up(16, 16, 4).commit(1, 1)
                .due("checkpoint()", OK).remove(1).due("recover()", OK).due("size()", 0)
                .due("count(7)", 0).due("word(0, 5)", 1));
        says.of(5, "a record that removes a key that was never there", x -> x.up(16, 16, 4)
                .all(OK, "begin()", "put(5, 5)", "remove(5)", "commit()", "recover()").due("size()", 0)
                .due("count(2)", 1).due("count(5)", 1));
        says.of(5, "later records count: put, removed, put again", x -> x.up(16, 16, 4).commit(5, 5).remove(5)
                .all(OK, "begin()", "put(5, 7)", "commit()", "recover()").due("get(5)", 7)
                .due("size()", 1).due("count(5)", 3));
    }

    /** Eleven changes are 34 ints: four blocks of eleven. */
    private static void torn() {
        for (int written = 0; written <= 3; written++) {
            int fails = written + 1;
            says.of(5, "WHOLE: a record of which " + written + " of 4 blocks are there is not", x -> x
                    .up(24, 16, 10).commit(1, 1).due("begin()", OK).puts(11, 21)
                    .due("power(" + fails + ")", OK).due("commit()", DOWN).due("recover()", OK)
                    .due("size()", 1).due("count(2)", 1).due("count(5)", 1));
        }
        says.of(5, "WHOLE: a record of which all blocks are there is", x -> x.up(24, 16, 10).commit(1, 1)
                .commit(11, 21).due("power(1)", OK).due("recover()", DOWN).due("recover()", OK)
                .due("size()", 12).due("count(2)", 5).due("count(5)", 2));
        says.of(5, "a record at the log's end that is torn: what is ahead of it stays", x -> x.up(16, 16, 4)
                .commit(1, 7).due("begin()", OK).puts(8, 14).due("power(2)", OK).due("commit()", DOWN)
                .due("recover()", OK).due("size()", 7).due("count(2)", 2).commit(8, 14).due("recover()", OK)
                .due("size()", 14).due("count(2)", 4));
        says.of(5, "the first record is torn: nothing is left of the log", x -> x.up(16, 16, 4)
                .due("begin()", OK).puts(1, 7).due("power(2)", OK).due("commit()", DOWN).due("recover()", OK)
                .due("size()", 0).due("count(2)", 0).due("count(5)", 0).commit(3, 3)
                .block(1, 16, 1, 1, 0, 2, 1, 1, 3, 30));
    }

    private static void stale() {
        says.of(5, "WHOLE: the first block is of this EPOCH, not of the one before", x -> x.up(16, 16, 4)
                .commit(1, 1).commit(2, 2).due("checkpoint()", OK).remove(1).due("recover()", OK)
                .due("count(5)", 1).due("count(2)", 1).due("size()", 1).due("key(0)", 2));
        says.of(5, "WHOLE: no record of this EPOCH, right behind a checkpoint", x -> x.up(16, 16, 4)
                .commit(1, 1).due("checkpoint()", OK).due("recover()", OK).due("count(2)", 0)
                .due("count(5)", 0).due("size()", 1));
        says.of(5, "WHOLE: all others are of this EPOCH, not of the one before", x -> x.up(16, 16, 4)
                .commit(1, 7).due("checkpoint()", OK).due("begin()", OK).puts(11, 17).due("power(2)", OK)
                .due("commit()", DOWN).due("word(1, 0)", 2).due("word(2, 0)", 1).due("word(1, 3)", 1)
                .due("word(2, 3)", 1).due("recover()", OK).due("size()", 7).due("has(11)", FALSE)
                .due("count(2)", 0));
        says.of(5, "WHOLE: all others have the BOOT of the first one", x -> x.up(16, 16, 4).due("begin()", OK)
                .puts(1, 11).due("power(4)", OK).due("commit()", DOWN).all(OK, "recover()", "begin()")
                .puts(21, 27).due("power(2)", OK).due("commit()", DOWN).due("word(1, 3)", 2)
                .due("word(2, 3)", 1).due("recover()", OK).due("size()", 0).due("count(2)", 0)
                .due("count(4)", 3));
        says.of(5, "WHOLE: a first block of an older BOOT is one, too", x -> x.up(16, 16, 4).commit(1, 7)
                .due("recover()", OK).commit(8, 8).due("word(1, 3)", 1).due("word(3, 3)", 2)
                .due("recover()", OK).due("size()", 8).due("count(2)", 3).due("count(5)", 2));
        says.of(5, "WHOLE: the last block of a torn record is no record behind a shorter one", x -> x
                .up(16, 16, 4).due("begin()", OK).puts(1, 11).due("power(4)", OK).due("commit()", DOWN)
                .due("recover()", OK).commit(30, 30).due("word(2, 1)", 1).due("recover()", OK)
                .due("size()", 1).due("get(30)", 300).due("count(2)", 1).due("count(5)", 1));
    }

    private static void behind() {
        says.of(5, "PLACE is behind the last one: the next record goes there", x -> x.up(16, 16, 4)
                .commit(1, 7).due("recover()", OK).commit(8, 8).block(3, 16, 1, 2, 0, 2, 1, 1, 8, 80)
                .due("count(2)", 3));
        says.of(5, "the HEAD's AREA is read: AREA 1", x -> x.up(16, 16, 4).commit(1, 7)
                .due("checkpoint()", OK).commit(8, 8).due("power(4)", OK).due("checkpoint()", DOWN)
                .due("recover()", OK).due("word(0, 3)", 1).due("size()", 8).due("get(8)", 80));
        says.of(5, "the HEAD's AREA is read: AREA 0, with an older tree in AREA 1", x -> x.up(16, 16, 4)
                .commit(1, 7).due("checkpoint()", OK).remove(1).all(OK, "checkpoint()", "recover()")
                .due("word(0, 3)", 0).due("size()", 6).due("has(1)", FALSE).due("key(0)", 2));
        says.of(5, "the other AREA's half of a tree is not read", x -> x.up(16, 16, 4).commit(1, 7)
                .all(OK, "checkpoint()", "checkpoint()").all(OK, "begin()", "put(1, 5)", "commit()", "power(2)")
                .due("checkpoint()", DOWN).due("word(10, 3)", 5).due("recover()", OK).due("get(1)", 5)
                .due("size()", 7).due("count(5)", 1).due("word(0, 3)", 0));
        says.of(5, "a record is not made twice: a checkpoint whose HEAD is there takes the log's place",
                x -> x.up(16, 16, 4).commit(1, 1).due("checkpoint()", OK).due("power(1)", OK)
                        .due("recover()", DOWN).due("recover()", OK).due("size()", 1).due("count(2)", 0)
                        .due("count(3)", 2));
    }
}
