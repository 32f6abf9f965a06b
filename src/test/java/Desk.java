/** A VariantDesk that counts its calls: the document promises nothing behind the 512th of one object. */
final class Desk {
    private static final int CALLS = 512;

    private final VariantDesk desk = new VariantDesk();
    private int calls = 0;

    private VariantDesk next() {
        calls++;
        if (calls == CALLS + 1) {
            Check.due("calls of one object in this test", calls, CALLS);
        }
        return desk;
    }

    /** How many calls more are promised. */
    int left() {
        return CALLS - calls;
    }

    int feed(int n, long octets) {
        return next().feed(n, octets);
    }

    int reference() {
        return next().reference();
    }

    int read(int table) {
        return next().read(table);
    }

    int place() {
        return next().place();
    }

    int sequence(int s, int what) {
        return next().sequence(s, what);
    }

    int letter(int s, int place) {
        return next().letter(s, place);
    }

    int table(int t, int what) {
        return next().table(t, what);
    }

    int record(int t, int i, int what) {
        return next().record(t, i, what);
    }

    int row(int t, int i, int row, int k) {
        return next().row(t, i, row, k);
    }

    int call(int t, int i, int sample, int what) {
        return next().call(t, i, sample, what);
    }

    int normalise(int t) {
        return next().normalise(t);
    }

    int split(int t) {
        return next().split(t);
    }

    int join(int t) {
        return next().join(t);
    }

    int sort(int t) {
        return next().sort(t);
    }

    int merge() {
        return next().merge();
    }

    int apply(int t, int sample, int which, int s) {
        return next().apply(t, sample, which, s);
    }

    int carried(int place) {
        return next().carried(place);
    }

    int back(int place) {
        return next().back(place);
    }

    boolean same(int t, int i, int u, int j) {
        return next().same(t, i, u, j);
    }

    int write(int t) {
        return next().write(t);
    }

    int out(int k) {
        return next().out(k);
    }

    int again() {
        return next().again();
    }
}
