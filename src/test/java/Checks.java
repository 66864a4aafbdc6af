/** Counts the answers that are not as due and ends a test with exit code 1 if there was one. */
final class Checks {
    private final String test;
    private int seen = 0;
    private int wrong = 0;

    Checks(String test) {
        this.test = test;
    }

    void due(String call, long got, long want) {
        seen++;
        if (got != want) {
            wrong++;
            if (wrong <= 20) {
                System.out.println(test + ": " + call + " answered " + got + ", due is " + want);
            }
        }
    }

    void due(String call, boolean got, boolean want) {
        due(call, got ? 1 : 0, want ? 1 : 0);
    }

    /** The words of a block from word 0 on; those behind the told ones are 0, and the last one is the SUM. */
    void dueBlock(BlockStore x, int block, int words, int... told) {
        int sum = 7;
        for (int i = 0; i < words - 1; i++) {
            int want = i < told.length ? told[i] : 0;
            due("word(" + block + ", " + i + ")", x.word(block, i), want);
            sum = 31 * sum + want;
        }
        due("word(" + block + ", " + (words - 1) + "), the SUM", x.word(block, words - 1), sum);
    }

    void dueZeroBlock(BlockStore x, int block, int words) {
        for (int i = 0; i < words; i++) {
            due("word(" + block + ", " + i + ")", x.word(block, i), 0);
        }
    }

    void end() {
        System.out.println(test + ": " + seen + " answers, " + wrong + " not as due");
        if (wrong != 0) {
            System.exit(1);
        }
    }
}
