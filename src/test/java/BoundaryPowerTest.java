/** Promise 4: which numbers arm the power, and the first, the last and no write of each call that writes. */
final class BoundaryPowerTest implements Answers {
    private static final Sentences says = new Sentences("BoundaryPowerTest");

    public static void main(String[] args) {
        numbers();
        states();
        latestCounts();
        failsOnce();
        format();
        commit();
        checkpoint();
        recover();
        callsThatWriteNothing();
        says.end();
    }

    private static void numbers() {
        says.of(4, "armed, n from 1 on: 1", x -> x.up(16, 16, 4).due("power(1)", OK).due("count(1)", 1)
                .due("recover()", DOWN));
        says.of(4, "armed, n from 1 on: 2", x -> x.up(16, 16, 4).due("power(2)", OK).due("count(1)", 2)
                .due("recover()", OK).due("recover()", DOWN));
        says.of(4, "armed, n from 1 on: the greatest int", x -> x.up(16, 16, 4).due("power(MAX)", OK)
                .due("count(1)", MAX).due("recover()", OK).due("count(1)", MAX - 1));
        String[] below = {"0", "-1", "-2", "MIN"};
        for (String n : below) {
            says.of(4, "not armed any more, n below 1: " + n, x -> x.up(16, 16, 4).due("power(1)", OK)
                    .due("power(" + n + ")", OK).due("count(1)", 0).due("recover()", OK).due("state()", IS_UP));
            says.of(4, "not armed, n below 1, when it was not: " + n, x -> x.up(16, 16, 4)
                    .due("power(" + n + ")", OK).due("count(1)", 0).due("recover()", OK).due("count(1)", 0));
        }
    }

    private static void states() {
        says.of(4, "NONE WITHOUT a disk", x -> x.due("power(1)", NONE).due("power(0)", NONE)
                .due("power(-1)", NONE).due("power(MAX)", NONE).due("power(MIN)", NONE));
        says.of(4, "NONE WITHOUT a disk: it is not armed then", x -> x.due("power(1)", NONE).due("count(1)", 0)
                .disk(16, 16, 4).due("count(1)", 0).due("format()", OK));
        says.of(4, "armed while UNFORMATTED", x -> x.disk(16, 16, 4).due("power(1)", OK).due("count(1)", 1)
                .due("format()", DOWN).due("state()", IS_DOWN));
        says.of(4, "armed while DOWN", x -> x.up(16, 16, 4).due("power(1)", OK).due("recover()", DOWN)
                .due("power(1)", OK).due("count(1)", 1).due("recover()", DOWN).due("recover()", OK));
        says.of(4, "not armed any more while DOWN", x -> x.up(16, 16, 4).due("power(1)", OK)
                .due("recover()", DOWN).due("power(1)", OK).due("power(0)", OK).due("recover()", OK));
        says.of(4, "armed in a transaction, which goes on", x -> x.up(16, 16, 4)
                .all(OK, "begin()", "put(1, 10)", "power(1)").due("state()", IS_UP).due("count(6)", 1)
                .due("get(1)", 10).due("put(2, 20)", OK).due("commit()", DOWN));
    }

    private static void latestCounts() {
        says.of(4, "the latest counts: a later one than the first", x -> x.up(16, 16, 4)
                .all(OK, "power(1)", "power(2)", "recover()").due("count(1)", 1).due("recover()", DOWN));
        says.of(4, "the latest counts: a sooner one than the first", x -> x.up(16, 16, 4)
                .all(OK, "power(9)", "power(1)").due("recover()", DOWN));
        says.of(4, "the latest counts, from now on: writes before it do not", x -> x.up(16, 16, 4)
                .all(OK, "power(3)", "recover()", "recover()", "power(3)", "recover()", "recover()")
                .due("count(1)", 1).due("recover()", DOWN));
        says.of(4, "as often as one likes: armed again behind not armed", x -> x.up(16, 16, 4)
                .all(OK, "power(1)", "power(0)", "recover()", "power(1)").due("recover()", DOWN));
    }

    private static void failsOnce() {
        says.of(4, "it fails: the power is not armed any more", x -> x.up(16, 16, 4).due("power(1)", OK)
                .due("recover()", DOWN).due("count(1)", 0).due("recover()", OK).due("recover()", OK)
                .commit(1, 1).due("checkpoint()", OK));
        says.of(4, "it fails: the store is DOWN", x -> x.up(16, 16, 4).due("power(1)", OK)
                .due("checkpoint()", DOWN).due("state()", IS_DOWN).due("begin()", DOWN));
        says.of(4, "a write that does not happen is not counted", x -> x.up(16, 16, 4).due("power(2)", OK)
                .due("format()", DOWN).due("count(0)", 3));
        says.of(4, "writes of several calls are counted together", x -> x.disk(16, 16, 4).due("power(6)", OK)
                .due("format()", OK).due("count(1)", 4).commit(1, 1).due("count(1)", 3).due("recover()", OK)
                .due("count(1)", 2).due("checkpoint()", DOWN).due("count(1)", 0).due("count(0)", 5));
    }

    private static void format() {
        says.of(4, "format, its first write fails: the HEAD is as it was", x -> x.up(16, 16, 4).commit(1, 1)
                .due("power(1)", OK).due("format()", DOWN).due("state()", IS_DOWN).due("count(0)", 3)
                .block(0, 16, MARK, 1, 1).due("recover()", OK).due("get(1)", 10));
        says.of(4, "format, its first write fails on a new disk: all is 0", x -> x.disk(16, 16, 4)
                .due("power(1)", OK).due("format()", DOWN).due("count(0)", 0).zeroBlock(0, 16)
                .due("recover()", UNFORMATTED));
        says.of(4, "format, its second write fails: the HEAD has EPOCH and no MARK", x -> x.up(16, 16, 4)
                .commit(1, 1).due("power(2)", OK).due("format()", DOWN).due("count(0)", 4).block(0, 16, 0, 2)
                .due("recover()", UNFORMATTED));
        says.of(4, "format has two writes: the third one is not its own", x -> x.up(16, 16, 4)
                .due("power(3)", OK).due("format()", OK).due("count(1)", 1).due("count(0)", 4)
                .due("state()", IS_UP));
    }

    /** Eleven changes are 34 ints: four blocks of eleven. */
    private static void commit() {
        for (int n = 1; n <= 4; n++) {
            int fails = n;
            says.of(4, "commit, write " + n + " of 4 fails: that one and all behind it do not happen", x -> {
                x.up(24, 16, 10).commit(1, 1).due("begin()", OK).puts(11, 21).due("power(" + fails + ")", OK)
                        .due("commit()", DOWN).due("state()", IS_DOWN).due("count(0)", 3 + fails - 1);
                for (int b = 2; b <= 5; b++) {
                    x.due("word(" + b + ", 0)", b < 1 + fails ? 1 : 0).due("word(" + b + ", 1)", b < 1 + fails ? 2 : 0);
                }
                x.due("recover()", OK).due("size()", 1).due("count(2)", 1).due("count(5)", 1);
            });
        }
        says.of(4, "commit has as many writes as blocks: the next one is not its own", x -> x.up(24, 16, 10)
                .commit(1, 1).due("power(5)", OK).commit(11, 21).due("count(1)", 1).due("size()", 12)
                .due("recover()", DOWN).due("recover()", OK).due("size()", 12));
    }

    /** Twelve keys are two leaves and a node; the HEAD is the fourth write. */
    private static void checkpoint() {
        for (int n = 1; n <= 4; n++) {
            int fails = n;
            says.of(4, "checkpoint, write " + n + " of 4 fails: that one and all behind it do not happen", x -> {
                x.up(24, 16, 10).commit(1, 12).due("power(" + fails + ")", OK).due("checkpoint()", DOWN)
                        .due("state()", IS_DOWN).due("count(0)", 6 + fails - 1).block(0, 16, MARK, 1, 1);
                int[] kinds = {1, 1, 2};
                for (int i = 0; i < 3; i++) {
                    x.due("word(" + (17 + i) + ", 0)", i < fails - 1 ? kinds[i] : 0);
                }
                x.due("recover()", OK).due("size()", 12).due("count(2)", 4).due("count(3)", 1)
                        .due("count(5)", 1).due("checkpoint()", OK).due("word(0, 3)", 1);
            });
        }
        says.of(4, "checkpoint has one write more than its tree: the next one is not its own", x -> x
                .up(24, 16, 10).commit(1, 12).due("power(5)", OK).due("checkpoint()", OK).due("count(1)", 1)
                .due("count(3)", 2).due("recover()", DOWN));
        says.of(4, "checkpoint without keys has one write", x -> x.up(16, 16, 4).due("power(1)", OK)
                .due("checkpoint()", DOWN).block(0, 16, MARK, 1, 1).all(OK, "recover()", "power(2)",
                        "checkpoint()").due("count(1)", 1));
    }

    private static void recover() {
        says.of(4, "recover, its write fails: the HEAD is as it was", x -> x.up(16, 16, 4).commit(1, 1)
                .due("power(1)", OK).due("recover()", DOWN).due("state()", IS_DOWN).due("count(0)", 3)
                .block(0, 16, MARK, 1, 1).due("size()", 0).due("recover()", OK).due("count(4)", 2)
                .due("size()", 1));
        says.of(4, "recover, its write fails again and again: BOOT is one more but once", x -> x.up(16, 16, 4)
                .commit(1, 1).due("power(1)", OK).due("recover()", DOWN).due("power(1)", OK)
                .due("recover()", DOWN).due("power(1)", OK).due("recover()", DOWN).due("recover()", OK)
                .due("count(4)", 2).due("get(1)", 10));
        says.of(4, "recover has one write: the second one is not its own", x -> x.up(16, 16, 4)
                .due("power(2)", OK).due("recover()", OK).due("count(1)", 1).due("state()", IS_UP));
    }

    private static void callsThatWriteNothing() {
        says.of(4, "commit without changes: the power does not fail", x -> x.up(16, 16, 4)
                .all(OK, "power(1)", "begin()", "commit()").due("count(1)", 1).due("state()", IS_UP));
        says.of(4, "commit that is FULL: the power does not fail", x -> x.up(16, 16, 4).commit(1, 11)
                .all(OK, "begin()", "put(1, 1)", "power(1)").due("commit()", FULL).due("count(1)", 1)
                .due("state()", IS_UP));
        says.of(4, "checkpoint that is FULL: the power does not fail", x -> x.up(16, 16, 11).commit(1, 7)
                .due("power(1)", OK).due("checkpoint()", FULL).due("count(1)", 1).due("state()", IS_UP));
        says.of(4, "recover that is UNFORMATTED: the power does not fail", x -> x.disk(16, 16, 4)
                .due("power(1)", OK).due("recover()", UNFORMATTED).due("count(1)", 1)
                .due("state()", IS_UNFORMATTED));
        says.of(4, "calls that are refused: the power does not fail", x -> x.up(16, 16, 4).due("power(1)", OK)
                .all(NO_TRANSACTION, "put(1, 1)", "remove(1)", "commit()", "abort()").due("begin()", OK)
                .all(IN_TRANSACTION, "begin()", "checkpoint()").due("remove(1)", ABSENT)
                .due("disk(15, 16, 4)", FALSE).due("count(1)", 1).due("state()", IS_UP));
        says.of(4, "calls that read: the power does not fail", x -> x.up(16, 16, 4).commit(1, 1)
                .due("power(1)", OK).due("get(1)", 10).due("has(1)", TRUE).due("size()", 1).due("key(0)", 1)
                .due("sum(0, 9, 1)", 10).due("word(1, 0)", 1).due("state()", IS_UP).due("count(1)", 1));
        says.of(4, "changes and abort: the power does not fail", x -> x.up(16, 16, 4)
                .all(OK, "power(1)", "begin()", "put(1, 1)", "remove(1)", "abort()").due("count(1)", 1)
                .due("state()", IS_UP));
    }
}
