/** The answers as the document tells them, in numbers, so that a test does not lean on the program's constants. */
interface Answers {
    int OK = 0;
    int DOWN = -1;
    int UNFORMATTED = -2;
    int NO_TRANSACTION = -3;
    int IN_TRANSACTION = -4;
    int ABSENT = -5;
    int FULL = -6;
    int NONE = -7;

    int FALSE = 0;
    int TRUE = 1;

    int IS_WITHOUT = 0;
    int IS_UNFORMATTED = 1;
    int IS_UP = 2;
    int IS_DOWN = 3;

    int MARK = 1129337682;
    int MIN = Integer.MIN_VALUE;
    int MAX = Integer.MAX_VALUE;
}
