import java.util.function.Consumer;

/** Sentences of the document, each with its promise's number and a test of its own on a new object. */
final class Sentences {
    private final String test;
    private String told = "";
    private int sentences = 0;
    private int broken = 0;
    private int givenUp = 0;
    private int compared = 0;
    private int wrong = 0;

    Sentences(String test) {
        this.test = test;
    }

    void of(int promise, String sentence, Consumer<Run> calls) {
        of("promise " + promise + ": " + sentence, calls);
    }

    void of(String sentence, Consumer<Run> calls) {
        told = sentence;
        compared = 0;
        wrong = 0;
        sentences++;
        calls.accept(new Run(this));
        if (compared == 0) {
            wrong("compared nothing");
        }
        if (wrong > 0) {
            broken++;
        }
    }

    void compare(String call, long got, long want) {
        compared++;
        if (got != want) {
            wrong(call + " answered " + got + ", due is " + want);
        }
    }

    void giveUp() {
        givenUp++;
    }

    void wrong(String what) {
        wrong++;
        if (wrong <= 5) {
            System.out.println(test + ": " + told + ": " + what);
        }
    }

    void end() {
        System.out.println(test + ": " + sentences + " sentences, " + broken + " broken, " + givenUp + " given up");
        if (broken != 0) {
            System.exit(1);
        }
    }
}
