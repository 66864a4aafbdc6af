import java.util.Random;

/** No call throws, for any arguments in any state, and behind the 512th call too, with as many keys as disks hold. */
final class LongUseTest {
    private static final Checks checks = new Checks("LongUseTest");

    public static void main(String[] args) {
        mostKeys();
        wildCalls();
        checks.end();
    }

    /** 127 blocks of log and areas of 192 blocks of 64 words: no disk has room for more keys. */
    private static void mostKeys() {
        BlockStore x = Stores.up(512, 64, 127);
        int key = 0;
        int turns = 0;
        while (x.count(7) < x.count(8) && turns < 1000) {
            turns++;
            int room = Math.min(150, 5520 - key);
            if (room < 1 || Stores.commit(x, key, key + room - 1) != BlockStore.OK) {
                x.abort();
                checks.due("checkpoint()", x.checkpoint(), BlockStore.OK);
            } else {
                key += room;
            }
        }
        checks.due("checkpoint()", x.checkpoint(), BlockStore.OK);
        checks.due("size()", x.size(), 5520);
        // Four records of 30 blocks and one of 7, each full to the last ints.
        int[] changes = {589, 589, 589, 589, 137};
        for (int m : changes) {
            checks.due("commit of " + m, Stores.commit(x, key, key + m - 1), BlockStore.OK);
            key += m;
        }
        checks.due("size()", x.size(), key);
        checks.due("checkpoint()", x.checkpoint(), BlockStore.FULL);
        x.begin();
        for (int i = 0; i < 600; i++) {
            checks.due("put", x.put(key + i, 1), BlockStore.OK);
        }
        checks.due("size()", x.size(), key + 600);
        checks.due("commit()", x.commit(), BlockStore.FULL);
        checks.due("recover()", x.recover(), BlockStore.OK);
        checks.due("size()", x.size(), key);
        checks.due("sum(.., 1)", x.sum(0, key, 1), 5L * key * (key - 1));
    }

    private static void wildCalls() {
        for (int seed = 1; seed <= 40; seed++) {
            Random random = new Random(seed);
            BlockStore x = new BlockStore();
            for (int call = 0; call < 20_000; call++) {
                wildCall(x, random);
            }
            checks.due("state() is one of four", x.state() >= 0 && x.state() <= 3, true);
        }
    }

    private static int wild(Random random) {
        int[] some = {0, 1, 2, 4, 16, 64, 512, -1, Integer.MIN_VALUE, Integer.MAX_VALUE, random.nextInt(),
            random.nextInt(600)};
        return some[random.nextInt(some.length)];
    }

    private static void wildCall(BlockStore x, Random random) {
        int a = wild(random);
        int b = wild(random);
        int c = wild(random);
        switch (random.nextInt(40)) {
            case 0: x.disk(a, b, c); break;
            case 1: x.disk(16 + random.nextInt(100), 16 + random.nextInt(49), 4 + random.nextInt(20)); break;
            case 2: case 3: x.format(); break;
            case 4: x.power(a); break;
            case 5: case 6: x.recover(); break;
            case 7: case 8: case 9: x.begin(); break;
            case 10: case 11: x.commit(); break;
            case 12: x.abort(); break;
            case 13: case 14: x.checkpoint(); break;
            case 15: x.get(a); break;
            case 16: x.has(a); break;
            case 17: x.size(); break;
            case 18: x.key(a); break;
            case 19: x.sum(a, b, c); break;
            case 20: x.word(a, b); break;
            case 21: x.state(); break;
            case 22: x.count(a); break;
            case 23: case 24: case 25: x.remove(a); break;
            default: x.put(a, b);
        }
    }
}
