/**
 * The program with its calls counted: what an object answers after its 512th call is free, so a test that asks for it
 * is wrong itself.
 */
final class Counted {
    static final int MOST_CALLS = 512;

    private final CursorRewriter made = new CursorRewriter();
    private int calls = 0;

    private CursorRewriter next() {
        calls++;
        if (calls > MOST_CALLS) {
            throw new IllegalStateException("the test makes more than " + MOST_CALLS + " calls on one object");
        }
        return made;
    }

    int calls() {
        return calls;
    }

    int code(char c) {
        return next().code(c);
    }

    int rules() {
        return next().rules();
    }

    void forget() {
        next().forget();
    }

    void restart() {
        next().restart();
    }

    boolean write(char c) {
        return next().write(c);
    }

    int settle() {
        return next().settle();
    }

    int finish() {
        return next().finish();
    }

    int length() {
        return next().length();
    }

    int letter(int place) {
        return next().letter(place);
    }

    int cursor() {
        return next().cursor();
    }

    int applied() {
        return next().applied();
    }

    int latest() {
        return next().latest();
    }

    boolean stuck() {
        return next().stuck();
    }

    int probe(int rule, boolean last) {
        return next().probe(rule, last);
    }
}
