/** Stores in the states that tests begin with. */
final class Stores {
    static final int MARK = 1129337682;

    private Stores() {
    }

    static BlockStore unformatted(int blocks, int words, int log) {
        BlockStore x = new BlockStore();
        x.disk(blocks, words, log);
        return x;
    }

    static BlockStore up(int blocks, int words, int log) {
        BlockStore x = unformatted(blocks, words, log);
        x.format();
        return x;
    }

    static BlockStore down(int blocks, int words, int log) {
        BlockStore x = up(blocks, words, log);
        x.power(1);
        x.recover();
        return x;
    }

    /** One transaction that puts the keys from .. to, each with ten times itself as its value. */
    static int commit(BlockStore x, int from, int to) {
        x.begin();
        for (int key = from; key <= to; key++) {
            x.put(key, 10 * key);
        }
        return x.commit();
    }
}
