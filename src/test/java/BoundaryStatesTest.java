/** What each call answers while the store is DOWN, UNFORMATTED or WITHOUT a disk: each call in each state. */
final class BoundaryStatesTest implements Answers {
    private static final Sentences says = new Sentences("BoundaryStatesTest");

    public static void main(String[] args) {
        refused("format()", 3);
        refused("begin()", 6);
        refused("put(1, 1)", 7);
        refused("put(9, 9)", 7);
        refused("remove(1)", 8);
        refused("remove(77)", 8);
        refused("commit()", 9);
        refused("abort()", 10);
        refused("checkpoint()", 11);
        zero("get(1)", 12);
        zero("has(1)", 13);
        zero("size()", 14);
        zero("key(0)", 15);
        zero("key(1)", 15);
        for (int what = 0; what <= 3; what++) {
            zero("sum(MIN, MAX, " + what + ")", 16);
        }
        answersWhileDown();
        answersWhileUnformatted();
        answersWithout();
        says.end();
    }

    /** Keys 1 to 3 are committed; a transaction was going on when the power failed. */
    private static Run down(Run x) {
        return x.up(16, 16, 4).commit(1, 3).all(OK, "begin()", "put(2, 2)", "remove(1)", "power(1)")
                .due("commit()", DOWN);
    }

    /** What was before half a format must not shine through. */
    private static Run halfFormatted(Run x) {
        return x.up(16, 16, 4).commit(1, 3).all(OK, "begin()", "put(2, 2)", "power(2)").due("format()", DOWN)
                .due("recover()", UNFORMATTED);
    }

    private static Run newDisk(Run x) {
        return x.up(16, 16, 4).commit(1, 3).all(OK, "begin()", "put(2, 2)").disk(16, 16, 4);
    }

    private static void answers(String call, int promise, int down, int unformatted, int without) {
        says.of(promise, "while DOWN " + call + " answers " + down + ", and nothing changes", x -> down(x)
                .due(call, down).due("state()", IS_DOWN).due("count(0)", 3).due("recover()", OK)
                .due("size()", 3).due("get(2)", 20).due("count(2)", 1).due("count(6)", NO_TRANSACTION));
        if (promise != 3) {
            says.of(promise, "while UNFORMATTED " + call + " answers " + unformatted + ", behind half a format",
                    x -> halfFormatted(x).due(call, unformatted).due("state()", IS_UNFORMATTED)
                            .due("count(0)", 4).due("format()", OK).due("size()", 0)
                            .due("count(6)", NO_TRANSACTION));
            says.of(promise, "while UNFORMATTED " + call + " answers " + unformatted + ", on a new disk",
                    x -> newDisk(x).due(call, unformatted).due("state()", IS_UNFORMATTED).due("count(0)", 0)
                            .due("format()", OK).due("size()", 0).due("count(6)", NO_TRANSACTION));
        }
        says.of(promise, "WITHOUT a disk " + call + " answers " + without, x -> x.due(call, without)
                .due("state()", IS_WITHOUT).due("count(0)", 0).up(16, 16, 4).due("size()", 0)
                .due("count(6)", NO_TRANSACTION));
    }

    private static void refused(String call, int promise) {
        answers(call, promise, DOWN, UNFORMATTED, NONE);
    }

    private static void zero(String call, int promise) {
        answers(call, promise, 0, 0, 0);
    }

    private static void answersWhileDown() {
        says.of(4, "while DOWN power answers OK", x -> down(x).due("power(2)", OK).due("count(1)", 2)
                .due("power(0)", OK).due("count(1)", 0));
        says.of(5, "while DOWN recover answers OK", x -> down(x).due("recover()", OK).due("state()", IS_UP));
        says.of(5, "while DOWN recover answers UNFORMATTED without MARK", x -> x.disk(16, 16, 4)
                .due("power(2)", OK).due("format()", DOWN).due("recover()", UNFORMATTED)
                .due("state()", IS_UNFORMATTED));
        says.of(2, "while DOWN disk answers true, or false", x -> down(x).due("disk(16, 16, 3)", FALSE)
                .due("state()", IS_DOWN).disk(16, 16, 4).due("state()", IS_UNFORMATTED));
        says.of(17, "while DOWN word answers", x -> down(x).due("word(0, 0)", MARK).due("word(1, 4)", 3));
        says.of(18, "while DOWN state answers", x -> down(x).due("state()", IS_DOWN));
        says.of(19, "while DOWN count answers", x -> down(x).due("count(0)", 3).due("count(8)", 5)
                .due("count(1)", 0).due("count(2)", 0));
    }

    private static void answersWhileUnformatted() {
        says.of(3, "while UNFORMATTED format answers OK", x -> newDisk(x).due("format()", OK)
                .due("state()", IS_UP));
        says.of(4, "while UNFORMATTED power answers OK", x -> newDisk(x).due("power(2)", OK)
                .due("count(1)", 2));
        says.of(5, "while UNFORMATTED recover answers UNFORMATTED", x -> newDisk(x)
                .due("recover()", UNFORMATTED).due("state()", IS_UNFORMATTED));
        says.of(2, "while UNFORMATTED disk answers true, or false", x -> newDisk(x)
                .due("disk(16, 16, 3)", FALSE).disk(17, 17, 5).due("word(16, 16)", 0));
        says.of(17, "while UNFORMATTED word answers", x -> halfFormatted(x).due("word(0, 1)", 2));
        says.of(18, "while UNFORMATTED state answers", x -> newDisk(x).due("state()", IS_UNFORMATTED));
        says.of(19, "while UNFORMATTED count answers", x -> halfFormatted(x).due("count(0)", 4)
                .due("count(8)", 5));
    }

    private static void answersWithout() {
        says.of(4, "WITHOUT a disk power answers NONE", x -> x.due("power(1)", NONE).due("state()", IS_WITHOUT));
        says.of(5, "WITHOUT a disk recover answers NONE", x -> x.due("recover()", NONE)
                .due("state()", IS_WITHOUT));
        says.of(2, "WITHOUT a disk disk answers true, or false", x -> x.due("disk(16, 16, 3)", FALSE)
                .disk(16, 16, 4));
        says.of(17, "WITHOUT a disk there is no word", x -> x.due("word(0, 0)", 0));
        says.of(18, "WITHOUT a disk state answers 0", x -> x.due("state()", 0));
        says.of(19, "WITHOUT a disk count answers 0", x -> x.due("count(0)", 0).due("count(6)", 0));
    }
}
