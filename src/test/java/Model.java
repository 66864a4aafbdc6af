import java.util.ArrayList;
import java.util.List;
import java.util.Map;
import java.util.TreeMap;

/** The document once more, written from its words with the whole library and no thought of speed. */
final class Model {
    private static final int MARK = 1129337682;

    private static final class PowerFailed extends Exception {
        private static final long serialVersionUID = 1L;
    }

    private int[][] blocks = null;
    private int width;
    private int log;
    private int area;
    private int state = 0;
    private int writes;
    private int fuse;
    private TreeMap<Integer, Integer> map = new TreeMap<>();
    // A removed key has null here; without a transaction there is no map of changes.
    private TreeMap<Integer, Integer> changes = null;
    private int place;
    private int records;
    private int epoch;
    private int boot;
    private int which;

    boolean disk(int newBlocks, int words, int newLog) {
        boolean right = newBlocks >= 16 && newBlocks <= 512 && words >= 16 && words <= 64 && newLog >= 4
                && newLog <= 128 && newBlocks - 1 - newLog >= 4;
        if (right) {
            blocks = new int[newBlocks][words];
            width = words;
            log = newLog;
            area = (newBlocks - 1 - newLog) / 2;
            state = 1;
            writes = 0;
            fuse = 0;
        }
        return right;
    }

    int format() {
        if (state == 0 || state == 3) {
            return refusal();
        }
        try {
            int next = blocks[0][1] + 1;
            write(0, List.of(0, next));
            write(0, List.of(MARK, next, 1, 0, 0, 0));
            up(next, 1, 0, 0, 0, new TreeMap<>());
            return BlockStore.OK;
        } catch (PowerFailed e) {
            return BlockStore.DOWN;
        }
    }

    int power(int n) {
        if (state == 0) {
            return BlockStore.NONE;
        }
        fuse = n < 1 ? 0 : n;
        return BlockStore.OK;
    }

    int recover() {
        if (state == 0) {
            return BlockStore.NONE;
        }
        int[] head = blocks[0].clone();
        if (!good(0) || head[0] != MARK) {
            state = 1;
            return BlockStore.UNFORMATTED;
        }
        TreeMap<Integer, Integer> found = new TreeMap<>();
        if (head[4] != 0) {
            walk(head[4], found);
        }
        int at = 0;
        int number = 1;
        for (List<Integer> record = whole(at, head[1], number); record != null; record = whole(at, head[1], number)) {
            for (int c = 0; c < record.get(0); c++) {
                if (record.get(1 + 3 * c) == 1) {
                    found.put(record.get(2 + 3 * c), record.get(3 + 3 * c));
                } else {
                    found.remove(record.get(2 + 3 * c));
                }
            }
            at += parts(record.get(0));
            number++;
        }
        try {
            write(0, List.of(MARK, head[1], head[2] + 1, head[3], head[4], head[5]));
            up(head[1], head[2] + 1, head[3], at, number - 1, found);
            return BlockStore.OK;
        } catch (PowerFailed e) {
            return BlockStore.DOWN;
        }
    }

    int begin() {
        if (state != 2) {
            return refusal();
        }
        if (changes != null) {
            return BlockStore.IN_TRANSACTION;
        }
        changes = new TreeMap<>();
        return BlockStore.OK;
    }

    int put(int key, int value) {
        if (state != 2 || changes == null) {
            return state != 2 ? refusal() : BlockStore.NO_TRANSACTION;
        }
        if (changes.size() == 600 && !changes.containsKey(key)) {
            return BlockStore.FULL;
        }
        changes.put(key, value);
        return BlockStore.OK;
    }

    int remove(int key) {
        if (state != 2 || changes == null) {
            return state != 2 ? refusal() : BlockStore.NO_TRANSACTION;
        }
        if (!seen().containsKey(key)) {
            return BlockStore.ABSENT;
        }
        if (changes.size() == 600 && !changes.containsKey(key)) {
            return BlockStore.FULL;
        }
        changes.put(key, null);
        return BlockStore.OK;
    }

    int commit() {
        if (state != 2 || changes == null) {
            return state != 2 ? refusal() : BlockStore.NO_TRANSACTION;
        }
        int need = changes.isEmpty() ? 0 : parts(changes.size());
        if (place + need > log) {
            return BlockStore.FULL;
        }
        List<Integer> record = new ArrayList<>();
        record.add(changes.size());
        for (Map.Entry<Integer, Integer> e : changes.entrySet()) {
            record.add(e.getValue() == null ? 2 : 1);
            record.add(e.getKey());
            record.add(e.getValue() == null ? 0 : e.getValue());
        }
        try {
            for (int p = 0; p < need; p++) {
                List<Integer> block = new ArrayList<>(List.of(epoch, records + 1, p, boot));
                int from = p * (width - 5);
                block.addAll(record.subList(from, Math.min(record.size(), from + width - 5)));
                write(1 + place + p, block);
            }
        } catch (PowerFailed e) {
            return BlockStore.DOWN;
        }
        place += need;
        records += need > 0 ? 1 : 0;
        map = seen();
        changes = null;
        return BlockStore.OK;
    }

    int abort() {
        if (state != 2 || changes == null) {
            return state != 2 ? refusal() : BlockStore.NO_TRANSACTION;
        }
        changes = null;
        return BlockStore.OK;
    }

    int checkpoint() {
        if (state != 2 || changes != null) {
            return state != 2 ? refusal() : BlockStore.IN_TRANSACTION;
        }
        int start = 1 + log + (1 - which) * area;
        List<List<Integer>> all = tree(start);
        if (all.size() > area) {
            return BlockStore.FULL;
        }
        try {
            for (int i = 0; i < all.size(); i++) {
                write(start + i, all.get(i));
            }
            int root = all.isEmpty() ? 0 : start + all.size() - 1;
            write(0, List.of(MARK, epoch + 1, boot, 1 - which, root, map.size()));
            up(epoch + 1, boot, 1 - which, 0, 0, map);
            return BlockStore.OK;
        } catch (PowerFailed e) {
            return BlockStore.DOWN;
        }
    }

    int get(int key) {
        return state == 2 ? seen().getOrDefault(key, 0) : 0;
    }

    boolean has(int key) {
        return state == 2 && seen().containsKey(key);
    }

    int size() {
        return state == 2 ? seen().size() : 0;
    }

    int key(int i) {
        return i >= 0 && i < size() ? new ArrayList<>(seen().keySet()).get(i) : 0;
    }

    long sum(int a, int b, int what) {
        long many = 0;
        long values = 0;
        long least = 0;
        long most = 0;
        if (state == 2) {
            for (Map.Entry<Integer, Integer> e : seen().entrySet()) {
                if (e.getKey() >= a && e.getKey() <= b) {
                    least = many == 0 ? e.getKey() : least;
                    most = e.getKey();
                    many++;
                    values += e.getValue();
                }
            }
        }
        return what == 0 ? many : what == 1 ? values : what == 2 ? least : what == 3 ? most : 0;
    }

    int word(int b, int i) {
        return state != 0 && b >= 0 && b < blocks.length && i >= 0 && i < width ? blocks[b][i] : 0;
    }

    int state() {
        return state;
    }

    int count(int what) {
        if (state == 0) {
            return 0;
        }
        if (what == 0 || what == 1 || what == 8) {
            return what == 0 ? writes : what == 1 ? fuse : area;
        }
        if (state != 2 || what < 2 || what > 8) {
            return 0;
        }
        int open = changes == null ? BlockStore.NO_TRANSACTION : changes.size();
        return new int[] {0, 0, place, epoch, boot, records, open, tree(0).size()}[what];
    }

    private int refusal() {
        return state == 0 ? BlockStore.NONE : state == 1 ? BlockStore.UNFORMATTED : BlockStore.DOWN;
    }

    private void up(int e, int b, int a, int p, int r, TreeMap<Integer, Integer> m) {
        epoch = e;
        boot = b;
        which = a;
        place = p;
        records = r;
        map = m;
        changes = null;
        state = 2;
    }

    private TreeMap<Integer, Integer> seen() {
        TreeMap<Integer, Integer> all = new TreeMap<>(map);
        if (changes != null) {
            all.putAll(changes);
            all.values().removeIf(v -> v == null);
        }
        return all;
    }

    private void write(int b, List<Integer> told) throws PowerFailed {
        if (fuse == 1) {
            fuse = 0;
            state = 3;
            throw new PowerFailed();
        }
        fuse = fuse > 1 ? fuse - 1 : 0;
        writes++;
        int[] block = new int[width];
        for (int i = 0; i < told.size(); i++) {
            block[i] = told.get(i);
        }
        block[width - 1] = sumOf(block);
        blocks[b] = block;
    }

    private int sumOf(int[] block) {
        int sum = 7;
        for (int i = 0; i + 1 < block.length; i++) {
            sum = sum * 31 + block[i];
        }
        return sum;
    }

    private boolean good(int b) {
        return blocks[b][width - 1] == sumOf(blocks[b]);
    }

    private int parts(int m) {
        return (int) Math.ceil((1 + 3.0 * m) / (width - 5));
    }

    private List<Integer> whole(int at, int inEpoch, int number) {
        List<Integer> ints = new ArrayList<>();
        int need = 1;
        for (int p = 0; p < need; p++) {
            if (at + p >= log) {
                return null;
            }
            int[] b = blocks[1 + at + p];
            if (!good(1 + at + p) || b[0] != inEpoch || b[1] != number || b[2] != p) {
                return null;
            }
            if (p == 0 && b[4] < 1 || b[3] != blocks[1 + at][3]) {
                return null;
            }
            for (int i = 4; i < width - 1; i++) {
                ints.add(b[i]);
            }
            need = parts(blocks[1 + at][4]);
        }
        return ints;
    }

    private void walk(int b, TreeMap<Integer, Integer> found) {
        for (int i = 0; i < blocks[b][1]; i++) {
            if (blocks[b][0] == 2) {
                walk(blocks[b][3 + 2 * i], found);
            } else {
                found.put(blocks[b][2 + 2 * i], blocks[b][3 + 2 * i]);
            }
        }
    }

    private List<List<Integer>> tree(int start) {
        List<int[]> pairs = new ArrayList<>();
        map.forEach((k, v) -> pairs.add(new int[] {k, v}));
        List<List<Integer>> all = new ArrayList<>();
        int kind = 1;
        while (pairs.size() > (kind == 1 ? 0 : 1)) {
            List<int[]> above = new ArrayList<>();
            int fan = (width - 3) / 2;
            for (int from = 0; from < pairs.size(); from += fan) {
                List<int[]> some = pairs.subList(from, Math.min(pairs.size(), from + fan));
                List<Integer> block = new ArrayList<>(List.of(kind, some.size()));
                some.forEach(p -> block.addAll(List.of(p[0], p[1])));
                above.add(new int[] {some.get(0)[0], start + all.size()});
                all.add(block);
            }
            pairs.clear();
            pairs.addAll(above);
            kind = 2;
        }
        return all;
    }
}
