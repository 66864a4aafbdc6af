import java.util.Map;
import java.util.TreeMap;

/** Promises 4 and 5: the power fails at each write of a long use; behind it the store is what its commits made it. */
final class EveryWriteTest {
    private static final Checks checks = new Checks("EveryWriteTest");
    private static final int STEPS = 14;

    private final BlockStore x = Stores.up(80, 16, 40);
    private final TreeMap<Integer, Integer> committed = new TreeMap<>();
    private final String told;

    private EveryWriteTest(String told) {
        this.told = told;
    }

    public static void main(String[] args) {
        int writes = new EveryWriteTest("no failure").use(0, 0);
        for (int n = 1; n <= writes; n++) {
            for (int again = 0; again <= 2; again++) {
                new EveryWriteTest("power(" + n + "), recover fails " + again + " times").use(n, again);
            }
        }
        checks.due("writes of the whole use", writes > 30, true);
        checks.end();
    }

    /** Answers how many writes there were; goes on behind the failure, so that what it left is written over. */
    private int use(int n, int again) {
        x.power(n);
        for (int step = 0; step < STEPS; step++) {
            step(step);
            if (x.state() == 3) {
                recover(again);
                compare(step);
            }
        }
        x.power(0);
        checks.due(told + ": recover()", x.recover(), BlockStore.OK);
        compare(STEPS);
        return x.count(0) - 2;
    }

    private void step(int step) {
        if (step % 5 == 3) {
            x.checkpoint();
        } else if (step % 5 == 4) {
            x.recover();
        } else {
            commit(step);
        }
    }

    private void commit(int step) {
        TreeMap<Integer, Integer> changed = new TreeMap<>(committed);
        x.begin();
        for (int key = step; key < step + 2 + step % 4 * 3; key++) {
            x.put(key, 100 * step + key);
            changed.put(key, 100 * step + key);
        }
        if (!committed.isEmpty()) {
            x.remove(committed.firstKey());
            changed.remove(committed.firstKey());
        }
        int answer = x.commit();
        checks.due(told + ": commit() is OK or DOWN", answer == BlockStore.OK || answer == BlockStore.DOWN, true);
        if (answer == BlockStore.OK) {
            committed.clear();
            committed.putAll(changed);
        }
    }

    private void recover(int again) {
        for (int i = 0; i < again; i++) {
            x.power(1);
            checks.due(told + ": recover()", x.recover(), BlockStore.DOWN);
        }
        checks.due(told + ": recover()", x.recover(), BlockStore.OK);
    }

    private void compare(int step) {
        String when = told + ", step " + step + ": ";
        checks.due(when + "size()", x.size(), committed.size());
        int i = 0;
        for (Map.Entry<Integer, Integer> entry : committed.entrySet()) {
            checks.due(when + "key(" + i + ")", x.key(i), entry.getKey());
            checks.due(when + "get(" + entry.getKey() + ")", x.get(entry.getKey()), entry.getValue());
            i++;
        }
    }
}
