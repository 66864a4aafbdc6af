/** Promises 1 and 2, and THE DISK with its numbers: the edges, each with a test of its own. */
final class BoundaryDiskTest implements Answers {
    private static final Sentences says = new Sentences("BoundaryDiskTest");

    public static void main(String[] args) {
        newObject();
        ownMemory();
        blocks();
        words();
        log();
        atLeastFourLeft();
        areas();
        falseAndAllStays();
        newDisk();
        otherSizes();
        logEnds();
        says.end();
    }

    private static void newObject() {
        says.of(1, "a new object is WITHOUT a disk", x -> x.due("state()", IS_WITHOUT));
        says.of(1, "WITHOUT a disk there are no keys, no writes, no power",
                x -> x.due("size()", 0).due("count(0)", 0).due("count(1)", 0).due("count(8)", 0));
        says.of(1, "WITHOUT a disk until disk() answers true",
                x -> x.due("disk(0, 0, 0)", FALSE).due("state()", IS_WITHOUT).disk(16, 16, 4)
                        .due("state()", IS_UNFORMATTED));
    }

    private static void ownMemory() {
        says.of(1, "all memory is the store's own: another object has none of it", x -> {
            x.up(16, 16, 4).commit(1, 3).all(OK, "begin()", "put(4, 4)", "power(5)");
            new Run(says).due("state()", IS_WITHOUT).due("size()", 0).due("word(0, 0)", 0).up(17, 17, 5)
                    .due("size()", 0).due("count(0)", 2).due("count(1)", 0).due("count(6)", NO_TRANSACTION);
            x.due("state()", IS_UP).due("size()", 4).due("count(0)", 3).due("count(1)", 5).due("count(6)", 1)
                    .due("count(8)", 5).due("commit()", OK);
        });
    }

    private static void wrong(String sentence, String call) {
        says.of(2, sentence + ": " + call + " is false",
                x -> x.due(call, FALSE).due("state()", IS_WITHOUT).due("count(8)", 0).due("format()", NONE));
    }

    private static void right(String sentence, int blocks, int words, int log) {
        says.of(2, sentence + ": disk(" + blocks + ", " + words + ", " + log + ") is true",
                x -> x.disk(blocks, words, log).due("state()", IS_UNFORMATTED).due("format()", OK)
                        .due("state()", IS_UP));
    }

    private static void blocks() {
        String few = "BLOCKS 16 .. 512, too few";
        wrong(few, "disk(15, 16, 4)");
        wrong(few, "disk(0, 16, 4)");
        wrong(few, "disk(-1, 16, 4)");
        wrong(few, "disk(-16, 16, 4)");
        wrong(few, "disk(MIN, 16, 4)");
        String many = "BLOCKS 16 .. 512, too many";
        wrong(many, "disk(513, 16, 4)");
        wrong(many, "disk(513, 64, 128)");
        wrong(many, "disk(MAX, 16, 4)");
        right("BLOCKS 16 .. 512, the least", 16, 16, 4);
        right("BLOCKS 16 .. 512, the next", 17, 16, 4);
        right("BLOCKS 16 .. 512, the next to the most", 511, 16, 4);
        right("BLOCKS 16 .. 512, the most", 512, 16, 4);
    }

    private static void words() {
        String few = "WORDS 16 .. 64, too few";
        wrong(few, "disk(16, 15, 4)");
        wrong(few, "disk(16, 0, 4)");
        wrong(few, "disk(16, -1, 4)");
        wrong(few, "disk(16, MIN, 4)");
        String many = "WORDS 16 .. 64, too many";
        wrong(many, "disk(16, 65, 4)");
        wrong(many, "disk(512, 65, 128)");
        wrong(many, "disk(16, MAX, 4)");
        right("WORDS 16 .. 64, the least", 16, 16, 4);
        right("WORDS 16 .. 64, the next", 16, 17, 4);
        right("WORDS 16 .. 64, the next to the most", 16, 63, 4);
        right("WORDS 16 .. 64, the most", 16, 64, 4);
        right("BLOCKS and WORDS, both the most", 512, 64, 128);
    }

    private static void log() {
        String few = "LOG 4 .. 128, too few";
        wrong(few, "disk(16, 16, 3)");
        wrong(few, "disk(512, 16, 0)");
        wrong(few, "disk(512, 16, -1)");
        wrong(few, "disk(16, 16, MIN)");
        wrong(few, "disk(512, 64, MIN)");
        String many = "LOG 4 .. 128, too many";
        wrong(many, "disk(512, 16, 129)");
        wrong(many, "disk(512, 16, 500)");
        wrong(many, "disk(512, 16, MAX)");
        right("LOG 4 .. 128, the least", 512, 16, 4);
        right("LOG 4 .. 128, the next", 512, 16, 5);
        right("LOG 4 .. 128, the next to the most", 512, 16, 127);
        right("LOG 4 .. 128, the most", 512, 16, 128);
    }

    private static void atLeastFourLeft() {
        String less = "BLOCKS - 1 - LOG at least 4, less";
        wrong(less, "disk(16, 16, 12)");
        wrong(less, "disk(16, 16, 15)");
        wrong(less, "disk(16, 16, 16)");
        wrong(less, "disk(132, 64, 128)");
        wrong(less, "disk(16, 16, 128)");
        right("BLOCKS - 1 - LOG at least 4, just 4", 16, 16, 11);
        right("BLOCKS - 1 - LOG at least 4, just 4", 133, 64, 128);
        right("BLOCKS - 1 - LOG at least 4, 5", 17, 16, 11);
    }

    /** 18 blocks of which the log has 11: areas of three, just what seven keys need. */
    private static void areas() {
        int[][] halves = {{16, 11, 2}, {17, 11, 2}, {18, 11, 3}, {19, 11, 3}, {16, 4, 5}, {17, 4, 6}, {512, 4, 253},
            {512, 128, 191}, {511, 128, 191}};
        for (int[] n : halves) {
            says.of(2, "half as many each (cut): of " + (n[0] - 1 - n[1]) + " blocks " + n[2],
                    x -> x.disk(n[0], 16, n[1]).due("count(8)", n[2]));
        }
        says.of(2, "AREA 1 is right behind AREA 0", x -> x.up(18, 16, 11).commit(1, 7).due("checkpoint()", OK)
                .zeroBlock(14, 16).block(15, 16, 1, 6, 1, 10, 2, 20, 3, 30, 4, 40, 5, 50, 6, 60)
                .block(16, 16, 1, 1, 7, 70).block(17, 16, 2, 2, 1, 15, 7, 16));
        says.of(2, "AREA 0 is from block LOG + 1 on", x -> x.up(18, 16, 11).commit(1, 7)
                .all(OK, "checkpoint()", "checkpoint()")
                .block(12, 16, 1, 6, 1, 10, 2, 20, 3, 30, 4, 40, 5, 50, 6, 60)
                .block(13, 16, 1, 1, 7, 70).block(14, 16, 2, 2, 1, 12, 7, 13));
        says.of(2, "the block that the cut leaves over is in no AREA", x -> x.up(19, 16, 11).commit(1, 7)
                .all(OK, "checkpoint()", "checkpoint()").block(17, 16, 2, 2, 1, 15, 7, 16)
                .block(14, 16, 2, 2, 1, 12, 7, 13).zeroBlock(18, 16));
    }

    private static void falseAndAllStays() {
        String refused = "disk(16, 16, 12)";
        says.of(2, "false, and all stays: WITHOUT", x -> x.due(refused, FALSE).due("state()", IS_WITHOUT)
                .due("power(1)", NONE).due("recover()", NONE).due("count(8)", 0));
        says.of(2, "false, and all stays: UNFORMATTED", x -> x.disk(16, 16, 4).due("power(3)", OK)
                .due(refused, FALSE).due("state()", IS_UNFORMATTED).due("count(1)", 3).due("count(8)", 5)
                .due("format()", OK).due("count(1)", 1));
        says.of(2, "false, and all stays: UP, with keys, log, transaction and power", x -> x.up(16, 16, 4)
                .commit(1, 3).all(OK, "begin()", "put(9, 90)", "power(7)").due(refused, FALSE)
                .due("state()", IS_UP).due("size()", 4).due("count(0)", 3).due("count(1)", 7).due("count(2)", 1)
                .due("count(5)", 1).due("count(6)", 1).due("count(8)", 5).due("word(0, 0)", MARK)
                .due("commit()", OK).block(2, 16, 1, 2, 0, 1, 1, 1, 9, 90));
        says.of(2, "false, and all stays: DOWN", x -> x.up(16, 16, 4).commit(1, 3).due("power(1)", OK)
                .due("recover()", DOWN).due("power(5)", OK).due(refused, FALSE).due("state()", IS_DOWN)
                .due("count(0)", 3).due("count(1)", 5).due("recover()", OK).due("size()", 3));
        says.of(2, "false for each number that is wrong by itself, and all stays", x -> x.up(16, 16, 4)
                .commit(1, 3).all(FALSE, "disk(15, 16, 4)", "disk(513, 16, 4)", "disk(16, 15, 4)",
                        "disk(16, 65, 4)", "disk(16, 16, 3)", "disk(512, 16, 129)", "disk(16, 16, 12)")
                .due("state()", IS_UP).due("size()", 3).due("count(8)", 5).block(0, 16, MARK, 1, 1));
    }

    /** A disk of 16 blocks of 16 words is 256 calls of word(). */
    private static Run blank(Run x) {
        x.due("state()", IS_UNFORMATTED);
        for (int b = 0; b < 16; b++) {
            x.zeroBlock(b, 16);
        }
        return x;
    }

    private static void newDisk() {
        says.of(2, "a new disk, all 0: WITHOUT", x -> blank(x.disk(16, 16, 4)));
        says.of(2, "a new disk, all 0: UNFORMATTED, behind half a format",
                x -> blank(x.disk(16, 16, 4).due("power(2)", OK).due("format()", DOWN)
                        .due("recover()", UNFORMATTED).disk(16, 16, 4)));
        says.of(2, "a new disk, all 0: UP, with a log and a tree", x -> blank(x.up(16, 16, 4).commit(1, 7)
                .due("checkpoint()", OK).commit(8, 9).due("checkpoint()", OK).commit(1, 1).disk(16, 16, 4)));
        says.of(2, "a new disk, all 0: DOWN", x -> blank(x.up(16, 16, 4).commit(1, 7).due("power(3)", OK)
                .due("checkpoint()", DOWN).disk(16, 16, 4)));
        says.of(2, "a new disk, all 0: its last block, too", x -> x.up(18, 16, 11).commit(1, 7)
                .due("checkpoint()", OK).due("word(17, 0)", 2).disk(18, 16, 11).zeroBlock(17, 16));
        says.of(2, "a new disk: EPOCH begins anew", x -> x.up(16, 16, 4).all(OK, "format()", "checkpoint()")
                .up(16, 16, 4).due("count(3)", 1).due("count(4)", 1));
        says.of(2, "a new disk: no key, no transaction, no record of the old one", x -> x.up(16, 16, 4)
                .commit(1, 3).all(OK, "begin()", "put(4, 4)").up(16, 16, 4).due("size()", 0)
                .due("count(2)", 0).due("count(5)", 0).due("count(6)", NO_TRANSACTION).due("begin()", OK)
                .due("count(6)", 0).due("recover()", OK).due("size()", 0));
        says.of(2, "a new disk: the power is not armed", x -> x.disk(16, 16, 4).due("power(1)", OK)
                .disk(16, 16, 4).due("count(1)", 0).due("format()", OK));
        says.of(2, "a new disk: writes are counted anew", x -> x.up(16, 16, 4).commit(1, 1)
                .due("count(0)", 3).disk(16, 16, 4).due("count(0)", 0));
        says.of(2, "a new disk: UP is UNFORMATTED then", x -> x.up(16, 16, 4).commit(1, 3).disk(16, 16, 4)
                .due("begin()", UNFORMATTED).due("size()", 0).due("recover()", UNFORMATTED));
    }

    private static void otherSizes() {
        says.of(2, "a smaller disk has no word of the larger one", x -> x.up(64, 64, 40).commit(1, 30)
                .due("checkpoint()", OK).disk(16, 16, 4).due("word(16, 0)", 0).due("word(0, 16)", 0)
                .due("word(52, 0)", 0).due("count(8)", 5).zeroBlock(0, 16).zeroBlock(1, 16).zeroBlock(15, 16));
        says.of(2, "a larger disk behind a smaller one is all 0", x -> x.up(16, 16, 4).commit(1, 7)
                .due("checkpoint()", OK).disk(64, 64, 40).zeroBlock(0, 64).zeroBlock(1, 64).zeroBlock(2, 64)
                .zeroBlock(3, 64).zeroBlock(4, 64).due("word(63, 63)", 0).due("count(8)", 11));
        says.of(2, "a larger disk behind a larger and a smaller one is all 0", x -> x.up(40, 64, 8)
                .commit(1, 31).due("checkpoint()", OK).disk(16, 16, 4).disk(40, 64, 8).zeroBlock(0, 64)
                .zeroBlock(1, 64).zeroBlock(24, 64).zeroBlock(25, 64).zeroBlock(26, 64));
        says.of(2, "the log's length is the new one", x -> x.up(16, 16, 4).up(16, 16, 5).commit(1, 7)
                .commit(8, 14).commit(15, 17).due("count(2)", 5));
    }

    /** Records of two blocks each: seven changes are 22 ints, 11 in a block. */
    private static void logEnds() {
        says.of(9, "blocks 1 .. LOG are the log: LOG is its last one", x -> x.up(16, 16, 4).commit(1, 7)
                .commit(8, 14).due("count(2)", 4)
                .block(4, 16, 1, 2, 1, 1, 11, 110, 1, 12, 120, 1, 13, 130, 1, 14, 140).zeroBlock(5, 16));
        says.of(9, "blocks 1 .. LOG are the log: block LOG + 1 is not", x -> x.up(16, 16, 4).commit(1, 7)
                .commit(8, 14).all(OK, "begin()", "put(15, 1)").due("commit()", FULL).zeroBlock(5, 16));
        says.of(9, "LOG 128, the most: all its blocks are used", x -> {
            x.up(512, 16, 128);
            for (int record = 1; record <= 128; record++) {
                x.all(OK, "begin()", "put(1, " + record + ")", "commit()");
            }
            x.due("count(2)", 128).all(OK, "begin()", "put(1, 0)").due("commit()", FULL).due("abort()", OK)
                    .block(128, 16, 1, 128, 0, 1, 1, 1, 1, 128).zeroBlock(129, 16).due("recover()", OK)
                    .due("count(2)", 128).due("count(5)", 128).due("get(1)", 128);
        });
    }
}
