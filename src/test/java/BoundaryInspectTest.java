/** Promises 17, 18 and 19: word, state and count, at the ends of the disk and in each state. */
final class BoundaryInspectTest implements Answers {
    private static final Sentences says = new Sentences("BoundaryInspectTest");

    public static void main(String[] args) {
        word();
        wordInStates();
        state();
        writes();
        power();
        placeAndRecords();
        epochAndBoot();
        changes();
        trees();
        others();
        says.end();
    }

    /** The disk's last block is AREA 1's last one: seven keys in areas of three. */
    private static Run filled(Run x) {
        return x.up(18, 16, 11).commit(1, 7).due("checkpoint()", OK);
    }

    private static void word() {
        says.of(17, "0 if there is none such: b below 0", x -> filled(x)
                .all(0, "word(-1, 0)", "word(-1, 15)", "word(-1, 16)", "word(-1, 31)", "word(MIN, 0)"));
        says.of(17, "0 if there is none such: b is BLOCKS", x -> filled(x)
                .all(0, "word(18, 0)", "word(18, 15)", "word(19, 0)", "word(511, 0)", "word(512, 0)"));
        says.of(17, "0 if there is none such: b is the greatest int", x -> filled(x)
                .all(0, "word(MAX, 0)", "word(MAX, 15)", "word(268435456, 0)", "word(268435457, 1)"));
        says.of(17, "0 if there is none such: i below 0", x -> filled(x)
                .all(0, "word(0, -1)", "word(1, -1)", "word(16, -1)", "word(1, -16)", "word(0, MIN)"));
        says.of(17, "0 if there is none such: i is WORDS", x -> filled(x)
                .all(0, "word(0, 16)", "word(0, 17)", "word(15, 16)", "word(0, 64)", "word(0, MAX)"));
        says.of(17, "0 if there is none such: both", x -> filled(x)
                .all(0, "word(-1, -1)", "word(18, 16)", "word(MIN, MIN)", "word(MAX, MAX)", "word(MIN, MAX)"));
        says.of(17, "the first word of the first block", x -> filled(x).due("word(0, 0)", MARK));
        says.of(17, "the last word of the first block", x -> x.up(16, 16, 4).due("word(0, 15)", 510197003));
        says.of(17, "the first word of the last block", x -> filled(x).due("word(17, 0)", 2));
        says.of(17, "the last word of the last block", x -> filled(x)
                .block(17, 16, 2, 2, 1, 15, 7, 16));
        says.of(17, "the last block of the largest disk", x -> x.up(512, 64, 4).due("word(511, 63)", 0)
                .due("word(512, 0)", 0).due("word(511, 64)", 0));
    }

    private static void wordInStates() {
        says.of(17, "0 if there is none such: WITHOUT a disk", x -> x
                .all(0, "word(0, 0)", "word(1, 1)", "word(-1, -1)", "word(MAX, MAX)"));
        says.of(17, "while UNFORMATTED: what is on the disk", x -> x.up(16, 16, 4).commit(1, 1)
                .due("power(2)", OK).due("format()", DOWN).due("recover()", UNFORMATTED).due("word(0, 1)", 2)
                .due("word(1, 0)", 1).due("word(16, 0)", 0));
        says.of(17, "while DOWN: what is on the disk", x -> x.up(16, 16, 4).commit(1, 1).due("power(1)", OK)
                .due("recover()", DOWN).due("word(0, 0)", MARK).due("word(1, 6)", 1).due("word(1, 7)", 10)
                .due("word(0, 16)", 0));
        says.of(17, "in a transaction: its changes are not on the disk", x -> x.up(16, 16, 4)
                .all(OK, "begin()", "put(1, 1)").zeroBlock(1, 16));
    }

    private static void state() {
        says.of(18, "0 WITHOUT a disk", x -> x.due("state()", 0).due("disk(1, 1, 1)", FALSE).due("state()", 0)
                .due("format()", NONE).due("state()", 0));
        says.of(18, "1 UNFORMATTED", x -> x.disk(16, 16, 4).due("state()", 1).due("begin()", UNFORMATTED)
                .due("recover()", UNFORMATTED).due("state()", 1));
        says.of(18, "2 UP, in a transaction, too", x -> x.up(16, 16, 4).due("state()", 2).due("begin()", OK)
                .due("state()", 2));
        says.of(18, "3 DOWN", x -> x.up(16, 16, 4).due("power(1)", OK).due("state()", 2).due("recover()", DOWN)
                .due("state()", 3).due("begin()", DOWN).due("state()", 3));
        says.of(18, "2 behind DOWN and a recovery, 1 behind a new disk", x -> x.up(16, 16, 4)
                .due("power(1)", OK).due("recover()", DOWN).due("recover()", OK).due("state()", 2)
                .disk(16, 16, 4).due("state()", 1));
    }

    private static void writes() {
        says.of(19, "0, writes: 0 on a new disk", x -> x.disk(16, 16, 4).due("count(0)", 0));
        says.of(19, "0, writes: of each call that writes", x -> x.up(16, 16, 4).due("count(0)", 2)
                .commit(1, 7).due("count(0)", 4).due("checkpoint()", OK).due("count(0)", 8)
                .due("recover()", OK).due("count(0)", 9).due("format()", OK).due("count(0)", 11));
        says.of(19, "0, writes: those alone that happened", x -> x.up(16, 16, 4).due("begin()", OK).puts(1, 7)
                .due("power(2)", OK).due("commit()", DOWN).due("count(0)", 3).due("recover()", OK)
                .due("count(0)", 4));
        says.of(19, "0, writes: since disk()", x -> x.up(16, 16, 4).disk(16, 16, 4).due("count(0)", 0)
                .due("format()", OK).due("count(0)", 2));
        says.of(19, "0, writes: while DOWN and UNFORMATTED, too", x -> x.up(16, 16, 4).due("power(2)", OK)
                .due("format()", DOWN).due("count(0)", 3).due("recover()", UNFORMATTED).due("count(0)", 3));
    }

    private static void power() {
        says.of(19, "1, writes to come: 0, not armed", x -> x.up(16, 16, 4).due("count(1)", 0)
                .due("recover()", OK).due("count(1)", 0));
        says.of(19, "1, writes to come: that one too", x -> x.up(16, 16, 4).due("power(1)", OK)
                .due("count(1)", 1));
        says.of(19, "1, writes to come: one less behind each write", x -> x.up(16, 16, 4).due("power(4)", OK)
                .commit(1, 7).due("count(1)", 2).due("recover()", OK).due("count(1)", 1)
                .due("recover()", DOWN).due("count(1)", 0));
        says.of(19, "1, writes to come: while DOWN and UNFORMATTED, too", x -> x.disk(16, 16, 4)
                .due("power(7)", OK).due("count(1)", 7).due("power(1)", OK).due("format()", DOWN)
                .due("count(1)", 0).due("power(6)", OK).due("count(1)", 6));
    }

    private static void placeAndRecords() {
        says.of(19, "2, PLACE: 0 at first, then blocks, not records", x -> x.up(16, 16, 4).due("count(2)", 0)
                .commit(1, 7).due("count(2)", 2).commit(8, 8).due("count(2)", 3));
        says.of(19, "5, records: 0 at first, then records, not blocks", x -> x.up(16, 16, 4).due("count(5)", 0)
                .commit(1, 7).due("count(5)", 1).commit(8, 8).due("count(5)", 2));
        says.of(19, "5, records since EPOCH began: 0 behind a checkpoint and a format", x -> x.up(16, 16, 4)
                .commit(1, 1).due("checkpoint()", OK).due("count(5)", 0).commit(2, 2).due("count(5)", 1)
                .due("format()", OK).due("count(5)", 0));
        says.of(19, "5, records since EPOCH began: as many behind a recovery", x -> x.up(16, 16, 4)
                .commit(1, 1).commit(2, 2).due("recover()", OK).due("count(5)", 2).commit(3, 3)
                .due("count(5)", 3));
    }

    private static void epochAndBoot() {
        says.of(19, "3, EPOCH: 1 at first, one more behind a checkpoint, not a recovery", x -> x
                .up(16, 16, 4).due("count(3)", 1).due("recover()", OK).due("count(3)", 1)
                .due("checkpoint()", OK).due("count(3)", 2).due("format()", OK).due("count(3)", 3));
        says.of(19, "4, BOOT: 1 at first, one more behind a recovery, not a checkpoint", x -> x
                .up(16, 16, 4).due("count(4)", 1).due("checkpoint()", OK).due("count(4)", 1)
                .due("recover()", OK).due("count(4)", 2).due("format()", OK).due("count(4)", 1));
    }

    private static void changes() {
        says.of(19, "6, changes: NO_TRANSACTION without", x -> x.up(16, 16, 4).due("count(6)", NO_TRANSACTION)
                .commit(1, 1).due("count(6)", NO_TRANSACTION).all(OK, "begin()", "abort()")
                .due("count(6)", NO_TRANSACTION));
        says.of(19, "6, changes: 0 in one without changes", x -> x.up(16, 16, 4).due("begin()", OK)
                .due("count(6)", 0));
        says.of(19, "6, changes: of each key one", x -> x.up(16, 16, 4).commit(1, 1)
                .all(OK, "begin()", "put(1, 1)", "put(2, 2)", "put(1, 3)", "remove(1)", "remove(2)")
                .due("count(6)", 2).due("remove(3)", ABSENT).due("count(6)", 2));
    }

    private static void trees() {
        says.of(19, "7, blocks that the committed map needs: 0 without keys", x -> x.up(16, 16, 4)
                .due("count(7)", 0));
        says.of(19, "7, blocks that the committed map needs: not what is SEEN", x -> x.up(16, 16, 4)
                .commit(1, 6).due("count(7)", 1).all(OK, "begin()", "put(7, 7)").due("count(7)", 1)
                .due("commit()", OK).due("count(7)", 3).all(OK, "begin()", "remove(7)").due("count(7)", 3)
                .due("abort()", OK).due("count(7)", 3));
        says.of(19, "7, blocks that the committed map needs: more than an AREA has", x -> x.up(16, 16, 11)
                .commit(1, 7).due("count(7)", 3).due("count(8)", 2));
        says.of(19, "7, blocks that the committed map needs: behind a recovery", x -> x.up(16, 16, 4)
                .commit(1, 7).due("recover()", OK).due("count(7)", 3).due("checkpoint()", OK)
                .due("count(7)", 3));
        says.of(19, "8, blocks of an AREA: while UNFORMATTED, UP and DOWN", x -> x.disk(17, 16, 4)
                .due("count(8)", 6).due("format()", OK).due("count(8)", 6).due("power(1)", OK)
                .due("recover()", DOWN).due("count(8)", 6));
    }

    private static Run fallen(Run x, boolean unformatted) {
        x.up(16, 16, 4).commit(1, 7).all(OK, "begin()", "put(1, 1)").due("power(2)", OK).due("format()", DOWN);
        return unformatted ? x.due("recover()", UNFORMATTED) : x;
    }

    private static void others() {
        for (int what = 2; what <= 7; what++) {
            String call = "count(" + what + ")";
            says.of(19, call + ": 0 if it is not UP: DOWN", x -> fallen(x, false).due(call, 0));
            says.of(19, call + ": 0 if it is not UP: UNFORMATTED", x -> fallen(x, true).due(call, 0));
            says.of(19, call + ": 0 if it is not UP: a new disk", x -> x.up(16, 16, 4).commit(1, 7)
                    .disk(16, 16, 4).due(call, 0));
        }
        for (int what = 0; what <= 8; what++) {
            String call = "count(" + what + ")";
            says.of(19, call + ": 0 WITHOUT a disk", x -> x.due(call, 0).due("power(3)", NONE).due(call, 0));
        }
        String[] calls = {"count(-1)", "count(9)", "count(10)", "count(MIN)", "count(MAX)"};
        for (String call : calls) {
            says.of(19, call + ": 0 for another what", x -> x.due(call, 0).up(16, 16, 4).commit(1, 7)
                    .all(OK, "begin()", "put(1, 1)", "power(9)").due(call, 0).due("power(1)", OK)
                    .due("recover()", DOWN).due(call, 0));
        }
    }
}
