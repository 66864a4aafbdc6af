/** What stands in a block, word by word, at its edges: the SUM, the HEAD, a LOG RECORD, a TREE. */
final class BoundaryBlocksTest implements Answers {
    private static final Sentences says = new Sentences("BoundaryBlocksTest");

    public static void main(String[] args) {
        sum();
        wholeBlocks();
        head();
        recordLengths();
        recordWords();
        treeSizes();
        treeWords();
        says.end();
    }

    /** The SUMs here were worked out outside of this project. */
    private static void sum() {
        says.of(3, "SUM, as ints, wraps around: a HEAD of 16 words",
                x -> x.up(16, 16, 4).due("word(0, 15)", 510197003));
        says.of(3, "SUM, as ints, wraps around below 0: a HEAD of 64 words",
                x -> x.up(16, 64, 4).due("word(0, 63)", -1501258997).due("word(0, 15)", 0));
        says.of(3, "SUM of a HEAD that is all 0 but EPOCH", x -> x.up(16, 16, 4).due("power(2)", OK)
                .due("format()", DOWN).due("word(0, 15)", -289889193));
        says.of(9, "SUM of words below 0", x -> x.up(16, 16, 4).all(OK, "begin()", "put(-1, -1)", "commit()")
                .due("word(1, 15)", -76516776));
        says.of(9, "SUM of the least and the greatest words", x -> x.up(16, 16, 4)
                .all(OK, "begin()", "put(MAX, MIN)", "put(MIN, MAX)", "commit()")
                .due("word(1, 15)", 1472919228));
        says.of(5, "GOOD: a block that is all 0 is not, its SUM is none",
                x -> x.disk(16, 16, 4).due("word(0, 15)", 0).due("recover()", UNFORMATTED));
    }

    private static void wholeBlocks() {
        says.of(9, "just whole blocks are written: a short record over a long one", x -> x.up(16, 16, 4)
                .commit(1, 7).due("checkpoint()", OK).commit(8, 8)
                .block(1, 16, 2, 1, 0, 1, 1, 1, 8, 80)
                .block(2, 16, 1, 1, 1, 1, 4, 40, 1, 5, 50, 1, 6, 60, 1, 7, 70));
        says.of(9, "just whole blocks are written: a record's last block is 0 behind its ints",
                x -> x.up(16, 16, 4).commit(1, 4).block(2, 16, 1, 1, 1, 1, 4, 40));
        says.of(11, "just whole blocks are written: a leaf of one key over a full one", x -> x.up(16, 16, 4)
                .commit(1, 6).all(OK, "checkpoint()", "begin()", "remove(1)", "remove(2)", "remove(3)",
                        "remove(4)", "remove(5)", "commit()", "checkpoint()", "checkpoint()")
                .block(10, 16, 1, 1, 6, 60));
        says.of(3, "just whole blocks are written: a format over a HEAD with a tree", x -> x.up(16, 16, 4)
                .commit(1, 7).due("checkpoint()", OK).block(0, 16, MARK, 2, 1, 1, 12, 7).due("format()", OK)
                .block(0, 16, MARK, 3, 1));
    }

    private static void head() {
        says.of(3, "HEAD of an empty store: AREA 0, root 0, no keys", x -> x.up(16, 16, 4)
                .block(0, 16, MARK, 1, 1, 0, 0, 0));
        says.of(11, "HEAD: the root's block is 0 without keys", x -> x.up(16, 16, 4).due("checkpoint()", OK)
                .block(0, 16, MARK, 2, 1, 1, 0, 0));
        says.of(11, "HEAD: the root's block is 0 when the last key is gone", x -> x.up(16, 16, 4)
                .commit(1, 1).due("checkpoint()", OK).block(0, 16, MARK, 2, 1, 1, 10, 1).remove(1)
                .due("checkpoint()", OK).block(0, 16, MARK, 3, 1, 0, 0, 0));
        says.of(11, "HEAD: a leaf that is alone is the root", x -> x.up(16, 16, 4).commit(1, 6)
                .due("checkpoint()", OK).block(0, 16, MARK, 2, 1, 1, 10, 6));
        says.of(11, "HEAD: how many keys its tree has, not the store", x -> x.up(16, 16, 4).commit(1, 6)
                .due("checkpoint()", OK).commit(7, 8).block(0, 16, MARK, 2, 1, 1, 10, 6).due("recover()", OK)
                .block(0, 16, MARK, 2, 2, 1, 10, 6).due("size()", 8));
    }

    private static void length(int words, int changes, int blocks) {
        says.of(9, "PART (WORDS - 5) ints in each but the last: " + changes + " changes, " + words + " words",
                x -> x.up(200, words, 100).due("begin()", OK).puts(1, changes).due("count(6)", changes)
                        .due("commit()", OK).due("count(2)", blocks).due("count(0)", 2 + blocks)
                        .due("word(" + blocks + ", 2)", blocks - 1).due("word(" + (blocks + 1) + ", 0)", 0)
                        .due("recover()", OK).due("count(2)", blocks).due("size()", changes));
    }

    private static void recordLengths() {
        length(16, 1, 1);
        length(16, 3, 1);
        length(16, 4, 2);
        length(16, 7, 2);
        length(16, 8, 3);
        length(16, 10, 3);
        length(16, 11, 4);
        length(17, 3, 1);
        length(17, 4, 2);
        length(18, 4, 1);
        length(18, 5, 2);
        length(63, 19, 1);
        length(63, 20, 2);
        length(64, 19, 1);
        length(64, 20, 2);
        length(64, 39, 2);
        length(64, 40, 3);
        length(64, 500, 26);
    }

    private static void recordWords() {
        says.of(9, "LOG RECORD of one change", x -> x.up(16, 16, 4).commit(5, 5)
                .block(1, 16, 1, 1, 0, 1, 1, 1, 5, 50).zeroBlock(2, 16));
        says.of(9, "LOG RECORD: a change that is cut by the block's end goes on in the next one",
                x -> x.up(16, 16, 4).commit(1, 4)
                        .block(1, 16, 1, 1, 0, 1, 4, 1, 1, 10, 1, 2, 20, 1, 3, 30, 1)
                        .block(2, 16, 1, 1, 1, 1, 4, 40).zeroBlock(3, 16));
        says.of(9, "LOG RECORD that is just full has no block more", x -> x.up(16, 16, 4).commit(1, 7)
                .block(2, 16, 1, 1, 1, 1, 4, 40, 1, 5, 50, 1, 6, 60, 1, 7, 70).zeroBlock(3, 16));
        says.of(9, "LOG RECORD: by ascending keys, those below 0 first", x -> x.up(16, 18, 4)
                .all(OK, "begin()", "put(MAX, 4)", "put(0, 3)", "put(-1, 2)", "put(MIN, 1)", "commit()")
                .block(1, 18, 1, 1, 0, 1, 4, 1, MIN, 1, 1, -1, 2, 1, 0, 3, 1, MAX, 4));
        says.of(9, "LOG RECORD: 2, the key, 0 for one that is removed", x -> x.up(16, 16, 4).commit(5, 5)
                .remove(5).block(2, 16, 1, 2, 0, 1, 1, 2, 5, 0));
        says.of(9, "LOG RECORD: 2, the key, 0 for one that was put and removed in it", x -> x.up(16, 16, 4)
                .all(OK, "begin()", "put(5, 50)", "remove(5)", "commit()").block(1, 16, 1, 1, 0, 1, 1, 2, 5, 0)
                .due("size()", 0).due("count(2)", 1));
        says.of(9, "LOG RECORD: 1, the key, the value for one that was removed and put in it", x -> x
                .up(16, 16, 4).commit(5, 5).all(OK, "begin()", "remove(5)", "put(5, 6)", "commit()")
                .block(2, 16, 1, 2, 0, 1, 1, 1, 5, 6));
        says.of(9, "LOG RECORD: of each key the last change", x -> x.up(16, 16, 4)
                .all(OK, "begin()", "put(5, 1)", "put(5, 2)", "put(5, 3)", "commit()")
                .block(1, 16, 1, 1, 0, 1, 1, 1, 5, 3));
        says.of(9, "LOG RECORD: a value 0 is put, not removed", x -> x.up(16, 16, 4)
                .all(OK, "begin()", "put(0, 0)", "commit()").block(1, 16, 1, 1, 0, 1, 1, 1, 0, 0)
                .due("recover()", OK).due("has(0)", TRUE));
        says.of(9, "LOG RECORD: its number in this EPOCH is from 1 on", x -> x.up(16, 16, 4).commit(1, 1)
                .commit(2, 2).due("word(1, 1)", 1).due("word(2, 1)", 2));
        says.of(9, "LOG RECORD: its number is 1 again behind a checkpoint", x -> x.up(16, 16, 4).commit(1, 1)
                .commit(2, 2).due("checkpoint()", OK).commit(3, 3).block(1, 16, 2, 1, 0, 1, 1, 1, 3, 30));
        says.of(9, "LOG RECORD: its number is 1 again behind a format", x -> x.up(16, 16, 4).commit(1, 1)
                .commit(2, 2).due("format()", OK).commit(3, 3).block(1, 16, 2, 1, 0, 1, 1, 1, 3, 30));
        says.of(9, "LOG RECORD: its number goes on behind a recovery, with the new BOOT", x -> x
                .up(16, 16, 4).commit(1, 1).due("recover()", OK).commit(2, 2)
                .block(2, 16, 1, 2, 0, 2, 1, 1, 2, 20));
        says.of(9, "LOG RECORD: the block's number in it is from 0 on", x -> x.up(16, 16, 4).commit(1, 11)
                .due("word(1, 2)", 0).due("word(2, 2)", 1).due("word(3, 2)", 2).due("word(4, 2)", 3));
    }

    private static void tree(int words, int keys, int blocks) {
        says.of(11, "TREE of " + keys + " keys, " + words + " words: " + blocks + " blocks", x -> {
            x.up(400, words, 128);
            for (int from = 1; from <= keys; from += 50) {
                x.commit(from, Math.min(from + 49, keys));
            }
            int start = 129 + 135;
            x.due("count(7)", blocks).due("checkpoint()", OK).due("word(0, 5)", keys)
                    .due("word(0, 4)", keys == 0 ? 0 : start + blocks - 1)
                    .due("word(" + (start + blocks) + ", 0)", 0).due("recover()", OK).due("size()", keys)
                    .due("key(" + (keys - 1) + ")", keys).due("sum(MIN, MAX, 1)", 5L * keys * (keys + 1));
        });
    }

    /** FAN is (WORDS - 3) / 2, cut: 6 of 16 words, 7 of 17 and 18, 8 of 19, 30 of 63 and 64. */
    private static void treeSizes() {
        tree(16, 0, 0);
        tree(16, 1, 1);
        tree(16, 5, 1);
        tree(16, 6, 1);
        tree(16, 7, 3);
        tree(16, 12, 3);
        tree(16, 13, 4);
        tree(17, 7, 1);
        tree(17, 8, 3);
        tree(18, 7, 1);
        tree(18, 8, 3);
        tree(19, 8, 1);
        tree(19, 9, 3);
        tree(63, 30, 1);
        tree(63, 31, 3);
        tree(64, 30, 1);
        tree(64, 31, 3);
        tree(16, 36, 7);
        tree(16, 37, 10);
        tree(17, 49, 8);
        tree(17, 50, 11);
        tree(16, 216, 43);
        tree(16, 217, 47);
    }

    private static void treeWords() {
        says.of(11, "TREE without keys has no block", x -> x.up(16, 16, 4).due("checkpoint()", OK)
                .due("count(0)", 3).due("count(7)", 0).zeroBlock(10, 16).zeroBlock(5, 16));
        says.of(11, "TREE of one key: one leaf, no node", x -> x.up(16, 16, 4).commit(5, 5)
                .due("checkpoint()", OK).block(10, 16, 1, 1, 5, 50).zeroBlock(11, 16));
        says.of(11, "TREE of FAN keys, cut: the leaf leaves a word of 16 unused", x -> x.up(16, 16, 4)
                .commit(1, 6).due("checkpoint()", OK)
                .block(10, 16, 1, 6, 1, 10, 2, 20, 3, 30, 4, 40, 5, 50, 6, 60).zeroBlock(11, 16));
        says.of(11, "TREE of FAN keys, not cut: the leaf uses all words of 17", x -> x.up(16, 17, 4)
                .commit(1, 7).due("checkpoint()", OK)
                .block(10, 17, 1, 7, 1, 10, 2, 20, 3, 30, 4, 40, 5, 50, 6, 60, 7, 70).zeroBlock(11, 17));
        says.of(11, "TREE of FAN + 1 keys: the last leaf has one, a node is above", x -> x.up(16, 16, 4)
                .commit(1, 7).due("checkpoint()", OK).due("word(10, 1)", 6).block(11, 16, 1, 1, 7, 70)
                .block(12, 16, 2, 2, 1, 10, 7, 11).zeroBlock(13, 16));
        says.of(11, "TREE of twice FAN keys: the last leaf is full, too", x -> x.up(16, 16, 4)
                .commit(1, 6).commit(7, 12).due("checkpoint()", OK)
                .block(11, 16, 1, 6, 7, 70, 8, 80, 9, 90, 10, 100, 11, 110, 12, 120)
                .block(12, 16, 2, 2, 1, 10, 7, 11));
        says.of(11, "TREE of FAN times FAN keys: one full node", x -> x.up(60, 16, 20).commit(1, 36)
                .due("checkpoint()", OK).block(46, 16, 2, 6, 1, 40, 7, 41, 13, 42, 19, 43, 25, 44, 31, 45)
                .zeroBlock(47, 16).due("word(0, 4)", 46));
        says.of(11, "TREE of FAN times FAN + 1 keys: a node of one block, a root above", x -> x
                .up(60, 16, 20).commit(1, 37).due("checkpoint()", OK).block(46, 16, 1, 1, 37, 370)
                .block(47, 16, 2, 6, 1, 40, 7, 41, 13, 42, 19, 43, 25, 44, 31, 45)
                .block(48, 16, 2, 1, 37, 46).block(49, 16, 2, 2, 1, 47, 37, 48).zeroBlock(50, 16)
                .due("word(0, 4)", 49));
        says.of(11, "TREE, ascending: the least int is first, the greatest last", x -> x.up(16, 16, 4)
                .all(OK, "begin()", "put(MAX, -1)", "put(0, 0)", "put(-1, MAX)", "put(MIN, MIN)", "commit()",
                        "checkpoint()")
                .block(10, 16, 1, 4, MIN, MIN, -1, MAX, 0, 0, MAX, -1).due("recover()", OK).due("size()", 4)
                .due("get(MIN)", MIN).due("get(MAX)", -1).due("has(0)", TRUE));
        says.of(11, "TREE: a node has the least keys, below 0, too", x -> x.up(16, 16, 4).commit(-9, -3)
                .due("checkpoint()", OK).block(12, 16, 2, 2, -9, 10, -3, 11));
    }
}
