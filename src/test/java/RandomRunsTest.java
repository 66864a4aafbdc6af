import java.util.Random;

/** All promises: runs of 512 calls, drawn from fixed seeds, against the model; the last ones look at the disk. */
final class RandomRunsTest {
    private static final int RUNS = 6000;
    private static final int CALLS = 512;
    private static final Checks checks = new Checks("RandomRunsTest");

    private final Random random;
    private final BlockStore x = new BlockStore();
    private final Model m = new Model();
    private int blocks = 16;
    private int words = 16;
    private int calls = 0;
    private final int keySpread;
    private final int putsInARow;
    private final int powerOneIn;

    private RandomRunsTest(int seed) {
        random = new Random(seed);
        keySpread = 4 << random.nextInt(8);
        putsInARow = 1 << random.nextInt(6);
        powerOneIn = 2 + random.nextInt(30);
    }

    public static void main(String[] args) {
        for (int seed = 1; seed <= RUNS; seed++) {
            new RandomRunsTest(seed).run(seed);
        }
        checks.end();
    }

    private void run(int seed) {
        if (random.nextInt(10) > 0) {
            newDisk(seed);
        }
        int changing = 50 + random.nextInt(400);
        for (int turn = calls; turn < changing; turn++) {
            step(seed);
        }
        for (int what = 0; what <= 8; what++) {
            due(seed, "count(" + what + ")", x.count(what), m.count(what));
        }
        for (int turn = calls; turn < CALLS; turn++) {
            look(seed);
        }
    }

    private int anyInt() {
        int[] some = {0, 1, -1, Integer.MIN_VALUE, Integer.MAX_VALUE, random.nextInt(), random.nextInt(100)};
        return some[random.nextInt(some.length)];
    }

    private int anyKey() {
        return random.nextInt(20) == 0 ? anyInt() : random.nextInt(keySpread) - keySpread / 3;
    }

    private void newDisk(int seed) {
        blocks = random.nextInt(4) == 0 ? 14 + random.nextInt(500) : 16 + random.nextInt(40);
        words = random.nextBoolean() ? 16 + random.nextInt(4) : 15 + random.nextInt(51);
        int log = 3 + random.nextInt(random.nextInt(4) == 0 ? 130 : 20);
        due(seed, "disk(" + blocks + ", " + words + ", " + log + ")",
                x.disk(blocks, words, log) ? 1 : 0, m.disk(blocks, words, log) ? 1 : 0);
    }

    private void step(int seed) {
        if (m.state() == 0 || random.nextInt(300) == 0) {
            newDisk(seed);
        } else if (m.state() == 1 && random.nextInt(3) == 0) {
            due(seed, "format()", x.format(), m.format());
        } else if (m.state() == 3 && random.nextInt(3) == 0) {
            due(seed, "recover()", x.recover(), m.recover());
        } else if (random.nextInt(powerOneIn) == 0) {
            int n = random.nextInt(12) - 1;
            due(seed, "power(" + n + ")", x.power(n), m.power(n));
        } else if (random.nextInt(3) == 0) {
            read(seed);
        } else {
            change(seed);
        }
    }

    private void change(int seed) {
        int key = anyKey();
        int value = anyInt();
        int draw = random.nextInt(putsInARow * 2 + 6);
        if (draw >= 6) {
            if (random.nextInt(4) == 0) {
                due(seed, "remove(" + key + ")", x.remove(key), m.remove(key));
            } else {
                due(seed, "put(" + key + ", " + value + ")", x.put(key, value), m.put(key, value));
            }
        } else if (draw >= 4) {
            due(seed, "begin()", x.begin(), m.begin());
        } else if (draw >= 2) {
            due(seed, "commit()", x.commit(), m.commit());
        } else if (draw == 1) {
            due(seed, "checkpoint()", x.checkpoint(), m.checkpoint());
        } else {
            seldom(seed);
        }
    }

    private void seldom(int seed) {
        switch (random.nextInt(8)) {
            case 0:
                due(seed, "format()", x.format(), m.format());
                break;
            case 1:
            case 2:
            case 3:
                due(seed, "recover()", x.recover(), m.recover());
                break;
            default:
                due(seed, "abort()", x.abort(), m.abort());
        }
    }

    private void read(int seed) {
        int a = anyKey();
        int b = anyKey();
        switch (random.nextInt(9)) {
            case 0:
                due(seed, "get(" + a + ")", x.get(a), m.get(a));
                break;
            case 1:
                due(seed, "has(" + a + ")", x.has(a) ? 1 : 0, m.has(a) ? 1 : 0);
                break;
            case 2:
                due(seed, "size()", x.size(), m.size());
                break;
            case 3:
                due(seed, "key(" + a + ")", x.key(a), m.key(a));
                break;
            case 4:
                int what = random.nextInt(6) - 1;
                due(seed, "sum(" + a + ", " + b + ", " + what + ")", x.sum(a, b, what), m.sum(a, b, what));
                break;
            case 5:
                due(seed, "word(" + a + ", " + b + ")", x.word(a, b), m.word(a, b));
                break;
            case 6:
                due(seed, "state()", x.state(), m.state());
                break;
            default:
                int number = random.nextInt(11) - 1;
                due(seed, "count(" + number + ")", x.count(number), m.count(number));
        }
    }

    /** Mostly at a word that is not 0 in the model, for most of a disk is. */
    private void look(int seed) {
        if (m.size() > 0 && random.nextInt(3) == 0) {
            int i = random.nextInt(m.size());
            due(seed, "get(" + m.key(i) + ")", x.get(m.key(i)), m.get(m.key(i)));
            return;
        }
        int b = 0;
        int i = 0;
        for (int tries = 0; tries < 20 && m.word(b, i) == 0 || tries == 0; tries++) {
            b = random.nextInt(blocks);
            i = random.nextInt(words);
        }
        due(seed, "word(" + b + ", " + i + ")", x.word(b, i), m.word(b, i));
    }

    private void due(int seed, String call, long got, long want) {
        calls++;
        checks.due("seed " + seed + ": " + call, got, want);
    }
}
