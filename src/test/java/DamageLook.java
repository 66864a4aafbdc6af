/**
 * A look, no test: the words of promises 3, 5 and 11 on disks that no run of calls makes. Words are changed behind the
 * program's back, so that each condition of a GOOD HEAD and of a WHOLE record is the only one that does not hold.
 */
final class DamageLook implements Answers {
    private static final Sentences says = new Sentences("DamageLook");

    public static void main(String[] args) {
        head();
        wraps();
        firstBlock();
        numberOfChanges();
        otherBlocks();
        logEnds();
        asFarAsWhole();
        tree();
        says.end();
    }

    private static void head() {
        int[] words = {1, 2, 3, 4, 5, 6, 14, 15};
        for (int i : words) {
            says.of(5, "the HEAD is not GOOD, word " + i + " is another: UNFORMATTED, nothing is written",
                    x -> x.up(16, 16, 4).commit(1, 3).damage(0, i, 12345).due("recover()", UNFORMATTED)
                            .due("state()", IS_UNFORMATTED).due("count(0)", 3).due("word(0, " + i + ")", 12345)
                            .due("size()", 0));
        }
        int[] marks = {0, 1, -MARK, MARK - 1, MARK + 1};
        for (int mark : marks) {
            says.of(5, "the HEAD is GOOD, without MARK, " + mark + " instead: UNFORMATTED, nothing is written",
                    x -> x.up(16, 16, 4).commit(1, 3).forge(0, 0, mark).due("recover()", UNFORMATTED)
                            .due("state()", IS_UNFORMATTED).due("count(0)", 3).due("word(0, 2)", 1));
        }
        says.of(5, "the HEAD is GOOD, with MARK: it is written as it is with BOOT one more", x -> x.up(16, 16, 4)
                .forge(0, 1, 70, 80, 1, 0, 0).due("recover()", OK).block(0, 16, MARK, 70, 81, 1, 0, 0)
                .due("count(3)", 70).due("count(4)", 81));
    }

    private static void wraps() {
        says.of(3, "EPOCH one more than what stands there, as ints: behind the greatest the least", x -> x
                .up(16, 16, 4).forge(0, 1, MAX).all(OK, "recover()", "format()").due("count(3)", MIN)
                .block(0, 16, MARK, MIN, 1));
        says.of(3, "EPOCH one more than what stands there, as ints: behind -1 0", x -> x.up(16, 16, 4)
                .forge(0, 1, -1).all(OK, "recover()", "format()").due("count(3)", 0).block(0, 16, MARK, 0, 1));
        says.of(3, "EPOCH one more than what stands there, of a HEAD that is not GOOD, too", x -> x
                .disk(16, 16, 4).damage(0, 1, 41).due("recover()", UNFORMATTED).due("format()", OK)
                .due("count(3)", 42));
        says.of(11, "EPOCH one more: behind the greatest the least", x -> x.up(16, 16, 4).forge(0, 1, MAX)
                .due("recover()", OK).commit(1, 1).due("word(1, 0)", MAX).due("checkpoint()", OK)
                .due("count(3)", MIN).commit(2, 2).due("word(1, 0)", MIN).due("recover()", OK)
                .due("size()", 2));
        says.of(5, "BOOT one more: behind the greatest the least", x -> x.up(16, 16, 4).forge(0, 2, MAX)
                .due("recover()", OK).due("count(4)", MIN).commit(1, 1).due("word(1, 3)", MIN)
                .due("recover()", OK).due("get(1)", 10));
    }

    /** A record of one block in block 1 and one behind it: with the first the second is none, too. */
    private static void notWhole(String sentence, int i, int value) {
        says.of(5, "WHOLE: " + sentence, x -> x.up(16, 16, 4).commit(1, 3).commit(7, 7).forge(1, i, value)
                .due("recover()", OK).due("size()", 0).due("count(2)", 0).due("count(5)", 0));
    }

    private static void firstBlock() {
        int[] words = {0, 1, 2, 3, 4, 5, 6, 7, 13, 14, 15};
        for (int i : words) {
            says.of(5, "WHOLE: a first block that is GOOD, word " + i + " is another", x -> x.up(16, 16, 4)
                    .commit(1, 3).commit(7, 7).damage(1, i, 98765).due("recover()", OK).due("size()", 0)
                    .due("count(2)", 0).due("count(5)", 0));
        }
        notWhole("of this EPOCH, not the one before", 0, 0);
        notWhole("of this EPOCH, not the next", 0, 2);
        notWhole("of this number, not 0", 1, 0);
        notWhole("of this number, not 2", 1, 2);
        notWhole("block number 0, not 1", 2, 1);
        notWhole("block number 0, not -1", 2, -1);
        says.of(5, "WHOLE: of any BOOT", x -> x.up(16, 16, 4).commit(1, 3).forge(1, 3, -77)
                .due("recover()", OK).due("size()", 3).due("count(2)", 1));
    }

    /** 11 ints in a block: the log's 4 blocks hold 14 changes at the most. */
    private static void numberOfChanges() {
        notWhole("m from 1 on, not 0", 4, 0);
        notWhole("m from 1 on, not -1", 4, -1);
        notWhole("m from 1 on, not the least int", 4, MIN);
        notWhole("all others that it needs in the log: the greatest m", 4, MAX);
        notWhole("all others that it needs in the log: 3 m + 1 is above the ints", 4, 715827883);
        notWhole("all others that it needs in the log: 3 m + 1 wraps around to 3", 4, 1431655766);
        notWhole("all others that it needs in the log: one change too many for it", 4, 15);
        says.of(5, "WHOLE: m is 1, though the block has more", x -> x.up(16, 16, 4).commit(1, 3)
                .forge(1, 4, 1).due("recover()", OK).due("size()", 1).due("get(1)", 10).due("count(2)", 1));
        says.of(5, "WHOLE: m is the most that the log holds", x -> x.up(16, 16, 4).commit(1, 14)
                .due("recover()", OK).due("size()", 14).due("count(2)", 4).forge(1, 4, 15).due("recover()", OK)
                .due("size()", 0).due("count(2)", 0));
    }

    /** A record of eleven changes: blocks 1 to 4 of the log. */
    private static void otherBlock(String sentence, int block, int i, int value) {
        says.of(5, "WHOLE: all others " + sentence + ", block " + block, x -> x.up(16, 16, 6).commit(1, 11)
                .commit(20, 20).forge(block, i, value).due("recover()", OK).due("size()", 0)
                .due("count(2)", 0).due("count(5)", 0));
    }

    private static void otherBlocks() {
        for (int block = 2; block <= 4; block++) {
            int b = block;
            says.of(5, "WHOLE: all others GOOD, block " + b, x -> x.up(16, 16, 6).commit(1, 11).commit(20, 20)
                    .damage(b, 14, 1).due("recover()", OK).due("size()", 0).due("count(2)", 0));
            otherBlock("of this EPOCH, not the one before", b, 0, 0);
            otherBlock("of this EPOCH, not the next", b, 0, 2);
            otherBlock("of this number, not 0", b, 1, 0);
            otherBlock("of this number, not the next", b, 1, 2);
            otherBlock("of block numbers 1, 2, .., not 0", b, 2, 0);
            otherBlock("of block numbers 1, 2, .., not one more", b, 2, b);
            otherBlock("of the BOOT of the first one, not one more", b, 3, 2);
            otherBlock("of the BOOT of the first one, not 0", b, 3, 0);
        }
        says.of(5, "WHOLE: all others of the BOOT of the first one, not of the HEAD's", x -> x.up(16, 16, 6)
                .commit(1, 4).forge(1, 3, 9).forge(2, 3, 9).due("recover()", OK).due("size()", 4)
                .due("count(2)", 2).due("count(4)", 2));
        says.of(5, "WHOLE: a value in the last block is read from the disk", x -> x.up(16, 16, 6).commit(1, 11)
                .forge(4, 4, 777).due("recover()", OK).due("size()", 11).due("get(11)", 777));
    }

    /** Block 5 is right behind a log of 4; what stands there is no record, however much it looks like one. */
    private static void logEnds() {
        says.of(5, "all others that it needs in the log: its last block is not behind the log", x -> x
                .up(16, 16, 4).commit(1, 14).forge(1, 4, 15).forge(5, 0, 1, 1, 4, 1, 99, 1, 15, 150)
                .due("recover()", OK).due("size()", 0).due("count(2)", 0));
        says.of(5, "the records in the log: none begins behind it", x -> x.up(16, 16, 4).commit(1, 14)
                .forge(5, 0, 1, 2, 0, 1, 1, 1, 50, 500).due("recover()", OK).due("size()", 14)
                .due("has(50)", FALSE).due("count(2)", 4).due("count(5)", 1));
        says.of(5, "the records in the log: one in its last block is", x -> x.up(16, 16, 4).commit(1, 10)
                .forge(4, 0, 1, 2, 0, 1, 1, 1, 50, 500).due("recover()", OK).due("size()", 11)
                .due("get(50)", 500).due("count(2)", 4).due("count(5)", 2));
    }

    private static void asFarAsWhole() {
        says.of(5, "as far as they are WHOLE: nothing behind one that is not", x -> x.up(16, 16, 4)
                .commit(1, 1).commit(2, 2).commit(3, 3).damage(2, 7, 21).due("recover()", OK).due("size()", 1)
                .due("count(2)", 1).due("count(5)", 1).commit(4, 4).block(2, 16, 1, 2, 0, 2, 1, 1, 4, 40));
        says.of(5, "from block 1 on: not from the second one", x -> x.up(16, 16, 4).commit(1, 1)
                .commit(2, 2).damage(1, 14, 1).forge(2, 1, 1).due("recover()", OK).due("size()", 0)
                .due("count(2)", 0));
        says.of(5, "each right behind the one before: not a block further", x -> x.up(16, 16, 4)
                .commit(1, 1).forge(3, 0, 1, 2, 0, 1, 1, 1, 5, 50).due("recover()", OK).due("size()", 1)
                .due("count(2)", 1));
        says.of(5, "numbers 1, 2, ..: the same one again is not", x -> x.up(16, 16, 4).commit(1, 1)
                .commit(2, 2).forge(2, 1, 1).due("recover()", OK).due("size()", 1).due("count(5)", 1));
        says.of(5, "numbers 1, 2, ..: one left out is not", x -> x.up(16, 16, 4).commit(1, 1)
                .commit(2, 2).forge(2, 1, 3).due("recover()", OK).due("size()", 1).due("count(5)", 1));
        says.of(5, "a record that is put on the disk is read, the map of before is not", x -> x.up(16, 16, 4)
                .commit(1, 1).forge(1, 4, 1, 1, 8, 80).due("recover()", OK).due("size()", 1)
                .due("get(8)", 80).due("has(1)", FALSE));
    }

    private static void tree() {
        says.of(5, "reads the disk alone: a value in a leaf", x -> x.up(16, 16, 4).commit(1, 7)
                .due("checkpoint()", OK).forge(11, 3, 777).due("get(7)", 70).due("recover()", OK)
                .due("get(7)", 777).due("size()", 7));
        says.of(5, "reads the disk alone: a HEAD without keys", x -> x.up(16, 16, 4).commit(1, 7)
                .due("checkpoint()", OK).forge(0, 4, 0, 0).due("recover()", OK).due("size()", 0));
        says.of(5, "reads the disk alone: the AREA that the HEAD tells", x -> x.up(16, 16, 4).commit(1, 6)
                .due("checkpoint()", OK).remove(1).commit(9, 9).due("checkpoint()", OK).due("has(9)", TRUE)
                .forge(0, 3, 1, 10).due("recover()", OK).due("size()", 6).due("has(1)", TRUE)
                .due("has(9)", FALSE));
    }
}
