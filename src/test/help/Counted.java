/** A lesson book for the tests: no test may lean on what an object answers behind its 512th call, which is free. */
final class Counted {
    static final int MOST_CALLS = 512;

    private final LessonTiers book = new LessonTiers();
    private int calls = 0;

    /** The book, for one more call. */
    private LessonTiers next() {
        calls++;
        if (calls > MOST_CALLS) {
            throw new AssertionError("a test makes more than " + MOST_CALLS + " calls of one object");
        }
        return book;
    }

    int callsLeft() {
        return MOST_CALLS - calls;
    }

    int clear() {
        return next().clear();
    }

    int addTier(int kind, int rule, int parent) {
        return next().addTier(kind, rule, parent);
    }

    int select(int annotator) {
        return next().select(annotator);
    }

    int setSetting(int what, int value) {
        return next().setSetting(what, value);
    }

    int tier(int tier, int what) {
        return next().tier(tier, what);
    }

    int book(int what) {
        return next().book(what);
    }

    int append(int packed) {
        return next().append(packed);
    }

    int addSpan(int tier, int first, int end) {
        return next().addSpan(tier, first, end);
    }

    int removeSpan(int tier, int span) {
        return next().removeSpan(tier, span);
    }

    int moveSpan(int tier, int span, int first, int end) {
        return next().moveSpan(tier, span, first, end);
    }

    int rename(int tier, int span) {
        return next().rename(tier, span);
    }

    int split(int tier, int span, int at) {
        return next().split(tier, span, at);
    }

    int join(int tier, int span) {
        return next().join(tier, span);
    }

    int span(int tier, int span, int what) {
        return next().span(tier, span, what);
    }

    char letter(int tier, int span, int index) {
        return next().letter(tier, span, index);
    }

    int spanAt(int tier, int frame) {
        return next().spanAt(tier, frame);
    }

    int refusal(boolean isReason) {
        return next().refusal(isReason);
    }

    int aligned(int tier, int other, int span) {
        return next().aligned(tier, other, span);
    }

    int alignment(int tier, int other, boolean isPairs) {
        return next().alignment(tier, other, isPairs);
    }

    int search() {
        return next().search();
    }

    int match(int match, int item) {
        return next().match(match, item);
    }

    int merge(int tier, int what) {
        return next().merge(tier, what);
    }

    int merged(int tier, int index, int what) {
        return next().merged(tier, index, what);
    }

    int frames(int tier, int what) {
        return next().frames(tier, what);
    }

    float agreement(int tier) {
        return next().agreement(tier);
    }

    double kappa(int tier) {
        return next().kappa(tier);
    }

    boolean isConsistent() {
        return next().isConsistent();
    }

    int read() {
        return next().read();
    }

    int errorPosition() {
        return next().errorPosition();
    }

    int refusedItem() {
        return next().refusedItem();
    }

    int undo() {
        return next().undo();
    }

    int snapshot() {
        return next().snapshot();
    }

    int restore() {
        return next().restore();
    }
}
