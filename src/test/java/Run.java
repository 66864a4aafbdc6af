import java.lang.reflect.InvocationTargetException;

/** A run of calls on a new object. A call is told as a text, "put(1, 10)", which is made and printed alike. */
final class Run implements Answers {
    private static final int PROMISED_CALLS = 512;

    private final Sentences sentences;
    private final BlockStore store = new BlockStore();
    private int calls = 0;
    private int mostCalls = PROMISED_CALLS;
    private int wordsOfBlock = 0;
    private DiskWords disk = null;
    private boolean givenUp = false;

    Run(Sentences sentences) {
        this.sentences = sentences;
    }

    /** For a look alone: no test asks what is behind the 512th call. */
    Run mayCall(int most) {
        mostCalls = most;
        return this;
    }

    /** Makes the call; its answer is due (a boolean counts 1 or 0). */
    Run due(String call, long want) {
        if (givenUp) {
            return this;
        }
        calls++;
        if (calls > mostCalls) {
            sentences.wrong("call " + calls + " is behind what is promised");
        }
        try {
            sentences.compare("call " + calls + ", " + call + ",", answer(call), want);
        } catch (InvocationTargetException thrown) {
            sentences.wrong("call " + calls + ", " + call + ", threw " + thrown.getCause());
        } catch (ReflectiveOperationException none) {
            sentences.wrong("call " + calls + ", " + call + ", can't be made: " + none);
        }
        return this;
    }

    /** Makes the calls one behind the other; each has the same answer. */
    Run all(long want, String... texts) {
        for (String call : texts) {
            due(call, want);
        }
        return this;
    }

    Run compareCalls(int want) {
        sentences.compare("the number of calls", calls, want);
        return this;
    }

    Run disk(int blocks, int words, int log) {
        wordsOfBlock = words;
        return due("disk(" + blocks + ", " + words + ", " + log + ")", TRUE);
    }

    Run up(int blocks, int words, int log) {
        return disk(blocks, words, log).due("format()", OK);
    }

    /** Puts the keys from .. to, each with ten times itself as its value. */
    Run puts(int from, int to) {
        for (int key = from; key <= to; key++) {
            due("put(" + key + ", " + 10 * key + ")", OK);
        }
        return this;
    }

    Run commit(int from, int to) {
        return due("begin()", OK).puts(from, to).due("commit()", OK);
    }

    Run remove(int key) {
        return all(OK, "begin()", "remove(" + key + ")", "commit()");
    }

    /** What stands in a block: the told words, 0 behind them, and the SUM. */
    Run block(int block, int words, int... told) {
        int sum = 7;
        for (int i = 0; i < words - 1; i++) {
            int want = i < told.length ? told[i] : 0;
            due("word(" + block + ", " + i + ")", want);
            sum = 31 * sum + want;
        }
        return due("word(" + block + ", " + (words - 1) + ")", sum);
    }

    Run zeroBlock(int block, int words) {
        for (int i = 0; i < words; i++) {
            due("word(" + block + ", " + i + ")", 0);
        }
        return this;
    }

    /** For a look alone: sets a word behind the program's back; the block's SUM stays as it is. */
    Run damage(int block, int i, int value) {
        if (findDisk()) {
            disk.set(block, i, value);
            due("word(" + block + ", " + i + ")", value);
        }
        return this;
    }

    /** For a look alone: sets words from i on behind the program's back, and the block's SUM, so that it is GOOD. */
    Run forge(int block, int i, int... values) {
        if (findDisk()) {
            for (int k = 0; k < values.length; k++) {
                disk.set(block, i + k, values[k]);
            }
            int sum = 7;
            for (int k = 0; k < wordsOfBlock - 1; k++) {
                sum = 31 * sum + store.word(block, k);
            }
            disk.set(block, wordsOfBlock - 1, sum);
            due("word(" + block + ", " + (wordsOfBlock - 1) + ")", sum);
        }
        return this;
    }

    /** Where the words can't be found the sentence is given up: how an object holds them is free. */
    private boolean findDisk() {
        if (disk == null && !givenUp) {
            try {
                disk = DiskWords.of(store, wordsOfBlock);
            } catch (IllegalAccessException hidden) {
                disk = null;
            }
            if (disk == null) {
                givenUp = true;
                sentences.giveUp();
            }
        }
        return !givenUp;
    }

    private long answer(String call) throws ReflectiveOperationException {
        int open = call.indexOf('(');
        String inside = call.substring(open + 1, call.length() - 1);
        String[] texts = inside.isEmpty() ? new String[0] : inside.split(", ");
        Class<?>[] types = new Class<?>[texts.length];
        Object[] numbers = new Object[texts.length];
        for (int i = 0; i < texts.length; i++) {
            types[i] = int.class;
            numbers[i] = number(texts[i]);
        }
        Object answer = BlockStore.class.getMethod(call.substring(0, open), types).invoke(store, numbers);
        if (answer instanceof Boolean) {
            return (Boolean) answer ? TRUE : FALSE;
        }
        return ((Number) answer).longValue();
    }

    private static int number(String text) {
        switch (text) {
            case "MIN":
                return MIN;
            case "MAX":
                return MAX;
            default:
                return Integer.parseInt(text);
        }
    }
}
