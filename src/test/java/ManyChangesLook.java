/**
 * A look, no test: FULL of promises 7 and 8 is told for 600 changes, which are 600 calls, and nothing is promised behind
 * an object's 512th call.
 */
final class ManyChangesLook implements Answers {
    private static final Sentences says = new Sentences("ManyChangesLook");

    public static void main(String[] args) {
        putFull();
        removeFull();
        says.end();
    }

    private static Run sixHundred(Run x) {
        return x.mayCall(700).up(512, 64, 128).commit(1000, 1001).due("begin()", OK).puts(1, 599)
                .due("count(6)", 599).due("remove(1000)", OK).due("count(6)", 600);
    }

    private static void putFull() {
        says.of(7, "not FULL: 599 changes, and none of this key", x -> x.mayCall(700).up(512, 64, 128)
                .due("begin()", OK).puts(1, 599).due("put(600, 1)", OK).due("count(6)", 600));
        says.of(7, "FULL: 600 changes, and none of this key", x -> sixHundred(x).due("put(600, 1)", FULL)
                .due("count(6)", 600).due("has(600)", FALSE).due("size()", 600));
        says.of(7, "FULL: 600 changes, and none of this key, though it is SEEN", x -> sixHundred(x)
                .due("put(1001, 1)", FULL).due("get(1001)", 10010));
        says.of(7, "not FULL: 600 changes, one of this key, put", x -> sixHundred(x).due("put(1, 5)", OK)
                .due("get(1)", 5).due("count(6)", 600));
        says.of(7, "not FULL: 600 changes, one of this key, removed", x -> sixHundred(x).due("put(1000, 5)", OK)
                .due("get(1000)", 5).due("count(6)", 600));
        says.of(7, "600 changes are committed and recovered", x -> sixHundred(x).due("commit()", OK)
                .due("count(2)", 32).due("recover()", OK).due("size()", 600).due("count(2)", 32));
        says.of(7, "NO_TRANSACTION is ahead of FULL", x -> sixHundred(x).due("abort()", OK)
                .due("put(600, 1)", NO_TRANSACTION).due("begin()", OK).due("put(600, 1)", OK));
    }

    private static void removeFull() {
        says.of(8, "FULL: 600 changes, and none of this key", x -> sixHundred(x).due("remove(1001)", FULL)
                .due("has(1001)", TRUE).due("count(6)", 600));
        says.of(8, "ABSENT is ahead of FULL", x -> sixHundred(x).due("remove(1002)", ABSENT)
                .due("remove(1000)", ABSENT).due("count(6)", 600));
        says.of(8, "not FULL: 600 changes, one of this key", x -> sixHundred(x).due("remove(1)", OK)
                .due("has(1)", FALSE).due("count(6)", 600));
        says.of(8, "NO_TRANSACTION is ahead of FULL", x -> sixHundred(x).due("abort()", OK)
                .due("remove(1001)", NO_TRANSACTION));
    }
}
