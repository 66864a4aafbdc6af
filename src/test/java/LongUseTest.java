import java.util.Random;

/** No call throws, for any arguments in any state, and behind the 512th call too, where the answers are free. */
final class LongUseTest {
    private static final Checks checks = new Checks("LongUseTest");

    public static void main(String[] args) {
        mostKeys();
        wildCalls();
        checks.end();
    }

    /** 127 blocks of log and areas of 192 blocks of 64 words: no disk has room for more keys. */
    private static void mostKeys() {
        BlockStore x = Stores.up(512, 64, 127);
        int key = 0;
        for (int turn = 0; turn < 60; turn++) {
            Stores.commit(x, key, key + 149);
            key += 150;
            x.abort();
            if (turn % 5 == 4) {
                x.checkpoint();
            }
        }
        // As many changes as fill the log: 29 blocks are 589 changes, 30 ints of the 30th.
        for (int i = 0; i < 5; i++) {
            Stores.commit(x, key, key + 588);
            key += 589;
        }
        x.begin();
        for (int i = 0; i < 700; i++) {
            x.put(key + i, 1);
        }
        x.sum(Integer.MIN_VALUE, Integer.MAX_VALUE, 1);
        x.commit();
        x.checkpoint();
        x.recover();
        checks.due("the calls came to an end", true, true);
    }

    private static void wildCalls() {
        for (int seed = 1; seed <= 40; seed++) {
            Random random = new Random(seed);
            BlockStore x = new BlockStore();
            for (int call = 0; call < 20_000; call++) {
                wildCall(x, random);
            }
            checks.due("the calls came to an end", true, true);
        }
    }

    private static int wild(Random random) {
        int[] some = {0, 1, 2, 4, 16, 64, 512, -1, Integer.MIN_VALUE, Integer.MAX_VALUE, random.nextInt(),
            random.nextInt(600)};
        return some[random.nextInt(some.length)];
    }

    private static void wildCall(BlockStore x, Random random) {
        int a = wild(random);
        int b = wild(random);
        int c = wild(random);
        switch (random.nextInt(40)) {
            case 0: x.disk(a, b, c); break;
            case 1: x.disk(16 + random.nextInt(100), 16 + random.nextInt(49), 4 + random.nextInt(20)); break;
            case 2: case 3: x.format(); break;
            case 4: x.power(a); break;
            case 5: case 6: x.recover(); break;
            case 7: case 8: case 9: x.begin(); break;
            case 10: case 11: x.commit(); break;
            case 12: x.abort(); break;
            case 13: case 14: x.checkpoint(); break;
            case 15: x.get(a); break;
            case 16: x.has(a); break;
            case 17: x.size(); break;
            case 18: x.key(a); break;
            case 19: x.sum(a, b, c); break;
            case 20: x.word(a, b); break;
            case 21: x.state(); break;
            case 22: x.count(a); break;
            case 23: case 24: case 25: x.remove(a); break;
            default: x.put(a, b);
        }
    }
}
