/** The program with its calls counted, because behind the 512th its answers are free. For tests. */
final class Bureau {
    private static final int MOST_CALLS = 512;

    private final IndexBureau program = new IndexBureau();
    private int calls = 0;

    private IndexBureau next() {
        calls++;
        if (calls > MOST_CALLS) {
            throw new AssertionError("the test makes more calls than the document promises");
        }
        return program;
    }

    int calls() {
        return calls;
    }

    int set(int share, int what, int v) {
        return next().set(share, what, v);
    }

    int get(int share, int what) {
        return next().get(share, what);
    }

    void base(int members, int level) {
        next().base(members, level);
    }

    int members() {
        return next().members();
    }

    int event(int kind, int share, int a, int b, int c) {
        return next().event(kind, share, a, b, c);
    }

    int close() {
        return next().close();
    }

    int outcome(int i) {
        return next().outcome(i);
    }

    int noted(int i) {
        return next().noted(i);
    }

    int days() {
        return next().days();
    }

    long published(int day) {
        return next().published(day);
    }

    long level() {
        return next().level();
    }

    int weight(int share) {
        return next().weight(share);
    }

    int print(int what, int share) {
        return next().print(what, share);
    }

    int character(int i) {
        return next().character(i);
    }

    int places(int what) {
        return next().places(what);
    }

    int check() {
        return next().check();
    }

    String text(int length) {
        StringBuilder text = new StringBuilder();
        for (int i = 0; i < length; i++) {
            text.append((char) character(i));
        }
        return text.toString();
    }

    String exactLevel() {
        return text(print(0, 0));
    }

    String divisor() {
        return text(print(1, 0));
    }

    String factor(int share) {
        return text(print(2, share));
    }
}
