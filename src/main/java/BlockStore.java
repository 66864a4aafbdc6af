import java.util.Arrays;

/** A store of keys and values on a disk of blocks, with a log, a tree and a power that can fail. */
public final class BlockStore {
    public static final int OK = 0;
    public static final int DOWN = -1;
    public static final int UNFORMATTED = -2;
    public static final int NO_TRANSACTION = -3;
    public static final int IN_TRANSACTION = -4;
    public static final int ABSENT = -5;
    public static final int FULL = -6;
    public static final int NONE = -7;

    private static final int STATE_WITHOUT = 0;
    private static final int STATE_UNFORMATTED = 1;
    private static final int STATE_UP = 2;
    private static final int STATE_DOWN = 3;

    private static final int MIN_BLOCKS = 16;
    private static final int MAX_BLOCKS = 512;
    private static final int MIN_WORDS = 16;
    private static final int MAX_WORDS = 64;
    private static final int MIN_LOG = 4;
    private static final int MAX_LOG = 128;
    private static final int MIN_AREAS = 4;

    private static final int MAX_CHANGES = 600;
    // No disk's tree and log hold more than 8,017 keys together; a transaction adds 600 at most.
    private static final int MAX_KEYS = 8_700;

    private static final int HEAD = 0;
    private static final int MARK = 1129337682;
    private static final int HEAD_MARK = 0;
    private static final int HEAD_EPOCH = 1;
    private static final int HEAD_BOOT = 2;
    private static final int HEAD_AREA = 3;
    private static final int HEAD_ROOT = 4;
    private static final int HEAD_KEYS = 5;

    private final Disk device = new Disk();
    private final Journal journal = new Journal(device);
    private final Tree tree = new Tree(device);
    private final KeyMap committed = new KeyMap(MAX_KEYS);
    // Kept beside the committed map and changed at once, so that every reading call has one map to read.
    private final KeyMap seen = new KeyMap(MAX_KEYS);
    private final KeyMap changed = new KeyMap(MAX_CHANGES);
    private int status = STATE_WITHOUT;
    private boolean inTransaction = false;

    public BlockStore() {
    }

    public boolean disk(int blocks, int words, int log) {
        if (blocks < MIN_BLOCKS || blocks > MAX_BLOCKS) {
            return false;
        }
        if (words < MIN_WORDS || words > MAX_WORDS) {
            return false;
        }
        if (log < MIN_LOG || log > MAX_LOG || blocks - 1 - log < MIN_AREAS) {
            return false;
        }
        device.renew(blocks, words);
        journal.layOut(log);
        tree.layOut(log + 1, (blocks - 1 - log) / 2);
        status = STATE_UNFORMATTED;
        return true;
    }

    public int format() {
        if (status != STATE_UNFORMATTED && status != STATE_UP) {
            return refusal();
        }
        int epoch = device.wordAt(HEAD, HEAD_EPOCH) + 1;
        device.clearPage();
        device.setPage(HEAD_EPOCH, epoch);
        if (!device.writePage(HEAD)) {
            return fail();
        }
        if (!writeHead(epoch, 1, 0, 0, 0)) {
            return fail();
        }
        committed.clear();
        journal.restart();
        comeUp();
        return OK;
    }

    public int power(int n) {
        if (status == STATE_WITHOUT) {
            return NONE;
        }
        device.arm(n);
        return OK;
    }

    public int recover() {
        if (status == STATE_WITHOUT) {
            return NONE;
        }
        if (!device.isGood(HEAD) || device.wordAt(HEAD, HEAD_MARK) != MARK) {
            status = STATE_UNFORMATTED;
            return UNFORMATTED;
        }
        int epoch = device.wordAt(HEAD, HEAD_EPOCH);
        int area = device.wordAt(HEAD, HEAD_AREA);
        int root = device.wordAt(HEAD, HEAD_ROOT);
        int keys = device.wordAt(HEAD, HEAD_KEYS);
        tree.load(committed, area, keys);
        journal.replay(committed, epoch);
        if (!writeHead(epoch, device.wordAt(HEAD, HEAD_BOOT) + 1, area, root, keys)) {
            return fail();
        }
        comeUp();
        return OK;
    }

    public int begin() {
        if (status != STATE_UP) {
            return refusal();
        }
        if (inTransaction) {
            return IN_TRANSACTION;
        }
        inTransaction = true;
        return OK;
    }

    public int put(int key, int value) {
        if (status != STATE_UP) {
            return refusal();
        }
        if (!inTransaction) {
            return NO_TRANSACTION;
        }
        if (!hasRoomForChange(key)) {
            return FULL;
        }
        changed.enter(key, value);
        seen.enter(key, value);
        return OK;
    }

    public int remove(int key) {
        if (status != STATE_UP) {
            return refusal();
        }
        if (!inTransaction) {
            return NO_TRANSACTION;
        }
        if (!seen.holds(key)) {
            return ABSENT;
        }
        if (!hasRoomForChange(key)) {
            return FULL;
        }
        changed.enter(key, 0);
        seen.drop(key);
        return OK;
    }

    public int commit() {
        if (status != STATE_UP) {
            return refusal();
        }
        if (!inTransaction) {
            return NO_TRANSACTION;
        }
        if (!journal.hasRoom(changed.entries())) {
            return FULL;
        }
        int epoch = device.wordAt(HEAD, HEAD_EPOCH);
        int boot = device.wordAt(HEAD, HEAD_BOOT);
        if (!journal.append(changed, seen, epoch, boot)) {
            return fail();
        }
        committed.copyFrom(seen);
        endTransaction();
        return OK;
    }

    public int abort() {
        if (status != STATE_UP) {
            return refusal();
        }
        if (!inTransaction) {
            return NO_TRANSACTION;
        }
        endTransaction();
        return OK;
    }

    public int checkpoint() {
        if (status != STATE_UP) {
            return refusal();
        }
        if (inTransaction) {
            return IN_TRANSACTION;
        }
        int keys = committed.entries();
        if (tree.blocksFor(keys) > tree.areaBlocks()) {
            return FULL;
        }
        int area = device.wordAt(HEAD, HEAD_AREA) == 0 ? 1 : 0;
        if (!tree.save(committed, area)) {
            return fail();
        }
        int epoch = device.wordAt(HEAD, HEAD_EPOCH) + 1;
        int boot = device.wordAt(HEAD, HEAD_BOOT);
        if (!writeHead(epoch, boot, area, tree.rootOf(area, keys), keys)) {
            return fail();
        }
        journal.restart();
        return OK;
    }

    public int get(int key) {
        return status == STATE_UP ? seen.valueOf(key) : 0;
    }

    public boolean has(int key) {
        return status == STATE_UP && seen.holds(key);
    }

    public int size() {
        return status == STATE_UP ? seen.entries() : 0;
    }

    public int key(int i) {
        return status == STATE_UP ? seen.keyAt(i) : 0;
    }

    public long sum(int a, int b, int what) {
        if (status != STATE_UP) {
            return 0L;
        }
        int from = seen.placeOf(a);
        int behind = seen.placeBehind(b);
        if (from >= behind) {
            return 0L;
        }
        switch (what) {
            case 0:
                return behind - from;
            case 1:
                return seen.sumOfValues(from, behind);
            case 2:
                return seen.keyAt(from);
            case 3:
                return seen.keyAt(behind - 1);
            default:
                return 0L;
        }
    }

    public int word(int b, int i) {
        return device.wordAt(b, i);
    }

    public int state() {
        return status;
    }

    public int count(int what) {
        switch (what) {
            case 0:
                return device.writesDone();
            case 1:
                return device.writesToFailure();
            case 8:
                return tree.areaBlocks();
            default:
                return status == STATE_UP ? countWhileUp(what) : 0;
        }
    }

    private int countWhileUp(int what) {
        switch (what) {
            case 2:
                return journal.usedBlocks();
            case 3:
                return device.wordAt(HEAD, HEAD_EPOCH);
            case 4:
                return device.wordAt(HEAD, HEAD_BOOT);
            case 5:
                return journal.recordCount();
            case 6:
                return inTransaction ? changed.entries() : NO_TRANSACTION;
            case 7:
                return tree.blocksFor(committed.entries());
            default:
                return 0;
        }
    }

    private int refusal() {
        switch (status) {
            case STATE_WITHOUT:
                return NONE;
            case STATE_UNFORMATTED:
                return UNFORMATTED;
            default:
                return DOWN;
        }
    }

    private int fail() {
        status = STATE_DOWN;
        return DOWN;
    }

    private void comeUp() {
        endTransaction();
        status = STATE_UP;
    }

    private void endTransaction() {
        seen.copyFrom(committed);
        changed.clear();
        inTransaction = false;
    }

    private boolean hasRoomForChange(int key) {
        return changed.entries() < MAX_CHANGES || changed.holds(key);
    }

    private boolean writeHead(int epoch, int boot, int area, int root, int keys) {
        device.clearPage();
        device.setPage(HEAD_MARK, MARK);
        device.setPage(HEAD_EPOCH, epoch);
        device.setPage(HEAD_BOOT, boot);
        device.setPage(HEAD_AREA, area);
        device.setPage(HEAD_ROOT, root);
        device.setPage(HEAD_KEYS, keys);
        return device.writePage(HEAD);
    }

    private static int blocksOf(int items, int each) {
        if (items < 1 || each < 1) {
            return 0;
        }
        return (items - 1) / each + 1;
    }

    /** The blocks, the one that is being made ready, and the power behind every write. */
    private static final class Disk {
        private final int[] words = new int[MAX_BLOCKS * MAX_WORDS];
        private final int[] page = new int[MAX_WORDS];
        private int blocks = 0;
        private int width = 0;
        private int writes = 0;
        private int fuse = 0;

        void renew(int newBlocks, int newWidth) {
            Arrays.fill(words, 0);
            blocks = newBlocks;
            width = newWidth;
            writes = 0;
            fuse = 0;
        }

        int wordsInBlock() {
            return width;
        }

        int writesDone() {
            return writes;
        }

        int writesToFailure() {
            return fuse;
        }

        void arm(int n) {
            fuse = Math.max(n, 0);
        }

        int wordAt(int block, int index) {
            if (block < 0 || block >= blocks || index < 0 || index >= width) {
                return 0;
            }
            return words[block * width + index];
        }

        boolean isGood(int block) {
            return wordAt(block, width - 1) == sumOf(block);
        }

        void clearPage() {
            Arrays.fill(page, 0);
        }

        void setPage(int index, int word) {
            if (index >= 0 && index < width - 1) {
                page[index] = word;
            }
        }

        /** Answers whether the write happened: false is a power that failed. */
        boolean writePage(int block) {
            if (width < 1 || block < 0 || block >= blocks) {
                return false;
            }
            if (fuse > 0) {
                fuse--;
                if (fuse == 0) {
                    return false;
                }
            }
            System.arraycopy(page, 0, words, block * width, width);
            words[block * width + width - 1] = sumOf(block);
            writes++;
            return true;
        }

        private int sumOf(int block) {
            int sum = 7;
            for (int i = 0; i < width - 1; i++) {
                sum = 31 * sum + wordAt(block, i);
            }
            return sum;
        }
    }

    /** Keys, ascending, each with a value. */
    private static final class KeyMap {
        private final int[] keys;
        private final int[] values;
        private int used = 0;

        KeyMap(int capacity) {
            int room = Math.max(capacity, 0);
            keys = new int[room];
            values = new int[room];
        }

        void clear() {
            used = 0;
        }

        int entries() {
            return used;
        }

        /** How many keys are below this one. */
        int placeOf(int key) {
            int low = 0;
            int high = used;
            for (int step = 0; step < 32 && low < high; step++) {
                int middle = (low + high) / 2;
                if (keys[middle] < key) {
                    low = middle + 1;
                } else {
                    high = middle;
                }
            }
            return low;
        }

        /** How many keys are not above this one. */
        int placeBehind(int key) {
            int place = placeOf(key);
            return isAt(place, key) ? place + 1 : place;
        }

        boolean holds(int key) {
            return isAt(placeOf(key), key);
        }

        int valueOf(int key) {
            int place = placeOf(key);
            return isAt(place, key) ? values[place] : 0;
        }

        int keyAt(int place) {
            return place >= 0 && place < used ? keys[place] : 0;
        }

        int valueAt(int place) {
            return place >= 0 && place < used ? values[place] : 0;
        }

        long sumOfValues(int from, int behind) {
            long sum = 0L;
            for (int i = from; i < behind; i++) {
                sum += valueAt(i);
            }
            return sum;
        }

        void enter(int key, int value) {
            int place = placeOf(key);
            if (isAt(place, key)) {
                values[place] = value;
                return;
            }
            if (used >= keys.length) {
                return;
            }
            System.arraycopy(keys, place, keys, place + 1, used - place);
            System.arraycopy(values, place, values, place + 1, used - place);
            keys[place] = key;
            values[place] = value;
            used++;
        }

        void drop(int key) {
            int place = placeOf(key);
            if (!isAt(place, key)) {
                return;
            }
            used--;
            System.arraycopy(keys, place + 1, keys, place, used - place);
            System.arraycopy(values, place + 1, values, place, used - place);
        }

        void copyFrom(KeyMap other) {
            used = Math.min(other.used, keys.length);
            System.arraycopy(other.keys, 0, keys, 0, used);
            System.arraycopy(other.values, 0, values, 0, used);
        }

        private boolean isAt(int place, int key) {
            return place >= 0 && place < used && keys[place] == key;
        }
    }

    /** The log: how records go to its blocks, and which of them are whole. */
    private static final class Journal {
        private static final int FIRST_BLOCK = 1;
        private static final int EPOCH = 0;
        private static final int NUMBER = 1;
        private static final int PART_NUMBER = 2;
        private static final int BOOT = 3;
        private static final int INTS = 4;
        private static final int PUT = 1;
        private static final int REMOVED = 2;

        private final Disk device;
        private int blocks = 0;
        private int place = 0;
        private int records = 0;

        Journal(Disk device) {
            this.device = device;
        }

        void layOut(int newBlocks) {
            blocks = newBlocks;
            restart();
        }

        void restart() {
            place = 0;
            records = 0;
        }

        int usedBlocks() {
            return place;
        }

        int recordCount() {
            return records;
        }

        boolean hasRoom(int changes) {
            return blocksFor(changes) <= blocks - place;
        }

        /** Answers false if the power failed; without changes there is no record. */
        boolean append(KeyMap changed, KeyMap seen, int epoch, int boot) {
            int parts = blocksFor(changed.entries());
            if (parts == 0) {
                return true;
            }
            for (int part = 0; part < parts; part++) {
                device.clearPage();
                device.setPage(EPOCH, epoch);
                device.setPage(NUMBER, records + 1);
                device.setPage(PART_NUMBER, part);
                device.setPage(BOOT, boot);
                fillPage(changed, seen, part * partInts());
                if (!device.writePage(FIRST_BLOCK + place + part)) {
                    return false;
                }
            }
            place += parts;
            records++;
            return true;
        }

        /** Reads the whole records behind one another and makes their changes in the map. */
        void replay(KeyMap map, int epoch) {
            restart();
            for (int turn = 0; turn < blocks; turn++) {
                int first = FIRST_BLOCK + place;
                int parts = wholeParts(first, epoch, records + 1);
                if (parts == 0) {
                    return;
                }
                redo(map, first);
                place += parts;
                records++;
            }
        }

        private int partInts() {
            return device.wordsInBlock() - 5;
        }

        private int blocksFor(int changes) {
            return changes < 1 ? 0 : blocksOf(1 + 3 * changes, partInts());
        }

        private void fillPage(KeyMap changed, KeyMap seen, int from) {
            int length = 1 + 3 * changed.entries();
            for (int i = 0; i < partInts() && from + i < length; i++) {
                device.setPage(INTS + i, recordInt(changed, seen, from + i));
            }
        }

        /** Int i of the record; a changed key that is not seen any more is one that was removed. */
        private static int recordInt(KeyMap changed, KeyMap seen, int i) {
            if (i == 0) {
                return changed.entries();
            }
            int change = (i - 1) / 3;
            switch ((i - 1) % 3) {
                case 0:
                    return seen.holds(changed.keyAt(change)) ? PUT : REMOVED;
                case 1:
                    return changed.keyAt(change);
                default:
                    return changed.valueAt(change);
            }
        }

        /** How many blocks the record has that begins here; 0 if it is not whole. */
        private int wholeParts(int first, int epoch, int number) {
            int left = FIRST_BLOCK + blocks - first;
            int boot = device.wordAt(first, BOOT);
            if (left < 1 || !isPart(first, epoch, number, 0, boot)) {
                return 0;
            }
            int changes = device.wordAt(first, INTS);
            // More changes than the log has ints would overflow the length below.
            if (changes < 1 || changes > left * partInts()) {
                return 0;
            }
            int parts = blocksFor(changes);
            if (parts > left) {
                return 0;
            }
            for (int part = 1; part < parts; part++) {
                if (!isPart(first + part, epoch, number, part, boot)) {
                    return 0;
                }
            }
            return parts;
        }

        private boolean isPart(int block, int epoch, int number, int part, int boot) {
            return device.isGood(block)
                    && device.wordAt(block, EPOCH) == epoch
                    && device.wordAt(block, NUMBER) == number
                    && device.wordAt(block, PART_NUMBER) == part
                    && device.wordAt(block, BOOT) == boot;
        }

        private void redo(KeyMap map, int first) {
            int changes = storedInt(first, 0);
            for (int change = 0; change < changes; change++) {
                int at = 1 + 3 * change;
                int key = storedInt(first, at + 1);
                if (storedInt(first, at) == PUT) {
                    map.enter(key, storedInt(first, at + 2));
                } else {
                    map.drop(key);
                }
            }
        }

        private int storedInt(int first, int i) {
            int each = partInts();
            if (each < 1) {
                return 0;
            }
            return device.wordAt(first + i / each, INTS + i % each);
        }
    }

    /** The two areas, and how a map stands in one of them as a tree. */
    private static final class Tree {
        private static final int KIND = 0;
        private static final int COUNT = 1;
        private static final int PAIRS = 2;
        private static final int LEAF = 1;
        private static final int NODE = 2;
        // A fan of 6, the least one, has far fewer rows over all keys that there can be.
        private static final int MAX_ROWS = 32;

        private final Disk device;
        private int firstBlock = 0;
        private int blocksEach = 0;

        Tree(Disk device) {
            this.device = device;
        }

        void layOut(int newFirstBlock, int newBlocksEach) {
            firstBlock = newFirstBlock;
            blocksEach = newBlocksEach;
        }

        int areaBlocks() {
            return blocksEach;
        }

        int blocksFor(int keys) {
            int row = blocksOf(keys, fan());
            int all = row;
            for (int rows = 0; rows < MAX_ROWS && row > 1; rows++) {
                row = blocksOf(row, fan());
                all += row;
            }
            return all;
        }

        /** The root is what is written last. */
        int rootOf(int area, int keys) {
            return keys < 1 ? 0 : startOf(area) + blocksFor(keys) - 1;
        }

        /** Answers false if the power failed. */
        boolean save(KeyMap map, int area) {
            int start = startOf(area);
            int row = blocksOf(map.entries(), fan());
            if (!writeLeaves(map, start, row)) {
                return false;
            }
            for (int rows = 0; rows < MAX_ROWS && row > 1; rows++) {
                if (!writeNodes(start, row)) {
                    return false;
                }
                start += row;
                row = blocksOf(row, fan());
            }
            return true;
        }

        /** The leaves stand side by side from the area's first block on, so no node is needed to find them. */
        void load(KeyMap map, int area, int keys) {
            map.clear();
            int start = startOf(area);
            int each = fan();
            if (each < 1) {
                return;
            }
            for (int i = 0; i < keys && i < MAX_KEYS; i++) {
                int leaf = start + i / each;
                int at = PAIRS + 2 * (i % each);
                map.enter(device.wordAt(leaf, at), device.wordAt(leaf, at + 1));
            }
        }

        private int fan() {
            return (device.wordsInBlock() - 3) / 2;
        }

        private int startOf(int area) {
            return area == 0 ? firstBlock : firstBlock + blocksEach;
        }

        private boolean writeLeaves(KeyMap map, int start, int leaves) {
            for (int leaf = 0; leaf < leaves; leaf++) {
                int from = leaf * fan();
                int many = Math.min(fan(), map.entries() - from);
                beginPage(LEAF, many);
                for (int i = 0; i < many; i++) {
                    setPair(i, map.keyAt(from + i), map.valueAt(from + i));
                }
                if (!device.writePage(start + leaf)) {
                    return false;
                }
            }
            return true;
        }

        /** Writes the row of nodes above the row of so many blocks that begins at start, right behind it. */
        private boolean writeNodes(int start, int row) {
            int nodes = blocksOf(row, fan());
            for (int node = 0; node < nodes; node++) {
                int from = node * fan();
                int many = Math.min(fan(), row - from);
                beginPage(NODE, many);
                for (int i = 0; i < many; i++) {
                    int below = start + from + i;
                    // The first pair of a leaf and of a node alike begins with its least key.
                    setPair(i, device.wordAt(below, PAIRS), below);
                }
                if (!device.writePage(start + row + node)) {
                    return false;
                }
            }
            return true;
        }

        private void beginPage(int kind, int many) {
            device.clearPage();
            device.setPage(KIND, kind);
            device.setPage(COUNT, many);
        }

        private void setPair(int i, int first, int second) {
            device.setPage(PAIRS + 2 * i, first);
            device.setPage(PAIRS + 2 * i + 1, second);
        }
    }
}
