import java.lang.reflect.Array;
import java.lang.reflect.Field;
import java.lang.reflect.Modifier;
import java.util.ArrayList;
import java.util.List;

/** The disk's words inside an object, wherever it holds them, so that a look can damage what no call can. */
final class DiskWords {
    private static final int MOST_WORDS = 64;

    private final int[] flat;
    private final int stride;
    private final int[][] rows;

    private DiskWords(int[] flat, int stride, int[][] rows) {
        this.flat = flat;
        this.stride = stride;
        this.rows = rows;
    }

    /** Answers null if they are held in another form than one row of ints, or a row for each block. */
    static DiskWords of(BlockStore store, int words) throws IllegalAccessException {
        List<Object> found = new ArrayList<>();
        collect(store, found);
        for (Object part : found) {
            DiskWords[] tries = new DiskWords[0];
            if (part instanceof int[]) {
                tries = new DiskWords[] {new DiskWords((int[]) part, words, null),
                    new DiskWords((int[]) part, MOST_WORDS, null)};
            } else if (part instanceof int[][]) {
                tries = new DiskWords[] {new DiskWords(null, 0, (int[][]) part)};
            }
            for (DiskWords one : tries) {
                if (one.shows(store, 3, 5) && one.shows(store, 15, 2)) {
                    return one;
                }
            }
        }
        return null;
    }

    void set(int block, int i, int value) {
        if (rows != null) {
            rows[block][i] = value;
        } else {
            flat[block * stride + i] = value;
        }
    }

    private boolean has(int block, int i) {
        if (rows != null) {
            return block < rows.length && rows[block] != null && i < rows[block].length;
        }
        return block * stride + i < flat.length;
    }

    /** Whether word() tells what is set here. */
    private boolean shows(BlockStore store, int block, int i) {
        if (!has(block, i)) {
            return false;
        }
        int was = rows != null ? rows[block][i] : flat[block * stride + i];
        set(block, i, was ^ 0x5a5a5a5a);
        boolean shown = store.word(block, i) == (was ^ 0x5a5a5a5a);
        set(block, i, was);
        return shown;
    }

    private static void collect(Object holder, List<Object> found) throws IllegalAccessException {
        if (holder == null || found.stream().anyMatch(known -> known == holder) || found.size() > 2000) {
            return;
        }
        found.add(holder);
        if (holder instanceof Object[] && !(holder instanceof int[][])) {
            for (int i = 0; i < Array.getLength(holder); i++) {
                collect(Array.get(holder, i), found);
            }
        }
        if (!holder.getClass().getName().startsWith("BlockStore")) {
            return;
        }
        for (Field field : holder.getClass().getDeclaredFields()) {
            if (!field.getType().isPrimitive() && !Modifier.isStatic(field.getModifiers())) {
                field.setAccessible(true);
                collect(field.get(holder), found);
            }
        }
    }
}
