import java.util.function.IntToLongFunction;

/**
 * Every argument that names a SEQUENCE, a TABLE, a RECORD, a ROW, a SAMPLE, a PLACE, an octet or a what: one below the
 * first, the first, the last, one behind the last, and the smallest and the largest int.
 */
public final class ArgumentTest {
    /** Sequence 0 has 5 letters, sequence 1 has 3; their names have 2 and 1 octets. */
    private static final String REFERENCE = ">aa\nACGTA\n>b\nCCC\n";

    public static void main(String[] args) {
        feed();
        read();
        sequence();
        letter();
        table();
        record();
        row();
        call();
        changes();
        apply();
        carriedAndBack();
        same();
        write();
        out();
        twoThatAreWrong();
        Check.end("ArgumentTest");
    }

    /** Table 0 has 2 samples and 3 records with 1, 3 and 0 alts; table 1 has 1 sample and 2 records. */
    private static Desk desk() {
        Desk desk = Check.desk(REFERENCE, "p q", "aa 1 . A CC . . . GT 1 0", "aa 2 i CG C,G,T 5 PASS . GT 0 0|3", "b 3 . C . . . . GT 0 .");
        Check.due("read", Check.read(desk, 1, Check.table("r", "b 1 . C G . . . GT 1", "b 2 . C G . . . GT 1")), 2);
        return desk;
    }

    private static void throwsOutside(String what, int first, int last, IntToLongFunction call) {
        for (int n : new int[] {first, last}) {
            String answer = Check.outcome(() -> call.applyAsLong(n));
            Check.due(what + " with " + n + ": " + answer, answer.endsWith("Exception") ? 1 : 0, 0);
        }
        for (int n : new int[] {first - 1, last + 1, Integer.MIN_VALUE, Integer.MAX_VALUE}) {
            Check.dueIndex(what + " with " + n, () -> call.applyAsLong(n));
        }
    }

    private static void noneOutside(String what, int first, int last, IntToLongFunction call) {
        for (int n : new int[] {first, last}) {
            Check.due(what + " with " + n, call.applyAsLong(n) == VariantDesk.NONE ? 1 : 0, 0);
        }
        for (int n : new int[] {first - 1, last + 1, Integer.MIN_VALUE, Integer.MAX_VALUE}) {
            Check.due(what + " with " + n, call.applyAsLong(n), VariantDesk.NONE);
        }
    }

    private static void feed() {
        for (int n : new int[] {Integer.MIN_VALUE, -1, 0, 9, Integer.MAX_VALUE}) {
            Check.dueArgument("feed with " + n, () -> desk().feed(n, 0));
        }
        for (long octets : new long[] {Long.MIN_VALUE, -1, 0, 1, Long.MAX_VALUE}) {
            Check.due("feed of " + octets, desk().feed(1, octets), 1);
            Check.due("feed of " + octets, desk().feed(8, octets), 8);
        }
    }

    private static void read() {
        throwsOutside("read", 0, 1, t -> desk().read(t));
    }

    private static void sequence() {
        Desk desk = desk();
        for (int k = 0; k < 4; k++) {
            int what = k;
            throwsOutside("sequence s, what " + what, 0, 1, s -> desk.sequence(s, what));
        }
        for (int k = 0; k < 2; k++) {
            int s = k;
            throwsOutside("sequence what", 0, 3, what -> desk.sequence(s, what));
        }
        throwsOutside("sequence s of one", 0, 0, s -> one().sequence(s, 0));
    }

    private static Desk one() {
        return Check.desk(">a\nA\n", "p", "a 1 . A C . . . GT 1");
    }

    private static void letter() {
        Desk desk = desk();
        throwsOutside("letter s", 0, 1, s -> desk.letter(s, 1));
        throwsOutside("letter s", 0, 1, s -> desk.letter(s, 0));
        throwsOutside("letter place, or octet", -1, 5, place -> desk.letter(0, place));
        throwsOutside("letter place, or octet", 0, 3, place -> desk.letter(1, place));
        throwsOutside("letter place, or octet", 0, 1, place -> one().letter(0, place));
    }

    private static void table() {
        Desk desk = desk();
        for (int k = 0; k < 5; k++) {
            int what = k;
            throwsOutside("table t, what " + what, 0, 1, t -> desk.table(t, what));
        }
        throwsOutside("table what", 0, 4, what -> desk.table(0, what));
        throwsOutside("table what", 0, 4, what -> desk.table(1, what));
    }

    private static void record() {
        Desk desk = desk();
        throwsOutside("record t", 0, 1, t -> desk.record(t, 0, 0));
        for (int k = 0; k < 6; k++) {
            int what = k;
            throwsOutside("record i, what " + what, 0, 2, i -> desk.record(0, i, what));
        }
        throwsOutside("record i", 0, 1, i -> desk.record(1, i, 0));
        throwsOutside("record i of one", 0, 0, i -> one().record(0, i, 0));
        for (int k = 0; k < 3; k++) {
            int i = k;
            throwsOutside("record what", 0, 5, what -> desk.record(0, i, what));
        }
    }

    private static void row() {
        Desk desk = desk();
        throwsOutside("row t", 0, 1, t -> desk.row(t, 0, 0, -1));
        throwsOutside("row i", 0, 2, i -> desk.row(0, i, 0, 0));
        throwsOutside("row i", 0, 1, i -> desk.row(1, i, 0, 9));
        throwsOutside("row row, one ALT", 0, 1, row -> desk.row(0, 0, row, -1));
        throwsOutside("row row, three ALTS", 0, 3, row -> desk.row(0, 1, row, 0));
        throwsOutside("row row, no ALT", 0, 0, row -> desk.row(0, 2, row, 99));
        noneOutside("row k", -1, 0, k -> desk.row(0, 0, 0, k));
        noneOutside("row k", -1, 1, k -> desk.row(0, 0, 1, k));
        noneOutside("row k", -1, 1, k -> desk.row(0, 1, 0, k));
        noneOutside("row k", -1, 0, k -> desk.row(0, 1, 3, k));
    }

    private static void call() {
        Desk desk = desk();
        throwsOutside("call t", 0, 1, t -> desk.call(t, 0, 0, 0));
        throwsOutside("call i", 0, 2, i -> desk.call(0, i, 0, 0));
        throwsOutside("call i", 0, 1, i -> desk.call(1, i, 0, 0));
        for (int k = 0; k < 4; k++) {
            int what = k;
            throwsOutside("call sample, what " + what, 0, 1, sample -> desk.call(0, 0, sample, what));
        }
        throwsOutside("call sample", 0, 0, sample -> desk.call(1, 0, sample, 0));
        for (int k = 0; k < 2; k++) {
            int sample = k;
            throwsOutside("call what", 0, 3, what -> desk.call(0, 2, sample, what));
        }
        Desk three = Check.desk(REFERENCE, "p q r", "b 1 . C G . . . GT 1 0 .");
        throwsOutside("call sample of three", 0, 2, sample -> three.call(0, 0, sample, 2));
        Desk none = Check.desk(REFERENCE, "", "b 1 . C G . . .");
        for (int sample : new int[] {Integer.MIN_VALUE, -1, 0, 1, Integer.MAX_VALUE}) {
            Check.dueIndex("call sample of none", () -> none.call(0, 0, sample, 0));
        }
    }

    private static void changes() {
        throwsOutside("normalise", 0, 1, t -> desk().normalise(t));
        throwsOutside("split", 0, 1, t -> desk().split(t));
        throwsOutside("join", 0, 1, t -> desk().join(t));
        throwsOutside("sort", 0, 1, t -> desk().sort(t));
    }

    private static void apply() {
        Desk desk = desk();
        throwsOutside("apply t", 0, 1, t -> desk.apply(t, 0, 0, 0));
        throwsOutside("apply sample", 0, 1, sample -> desk.apply(0, sample, 0, 0));
        throwsOutside("apply sample", 0, 0, sample -> desk.apply(1, sample, 0, 0));
        throwsOutside("apply which", 0, 1, which -> desk.apply(0, 0, which, 0));
        throwsOutside("apply s", 0, 1, s -> desk.apply(0, 0, 0, s));
        Desk none = Check.desk(REFERENCE, "", "b 1 . C G . . .");
        Desk empty = new Desk();
        Check.read(empty, 0, Check.table("p"));
        for (int n : new int[] {Integer.MIN_VALUE, -1, 0, 1, Integer.MAX_VALUE}) {
            Check.dueIndex("apply sample of none", () -> none.apply(0, n, 0, 0));
            Check.dueIndex("apply s of none", () -> empty.apply(0, 0, 0, n));
        }
    }

    private static void carriedAndBack() {
        Desk desk = desk();
        Check.due("apply", desk.apply(0, 0, 0, 0), 6);
        noneOutside("carried", 1, 5, desk::carried);
        noneOutside("back", 1, 6, desk::back);
        Check.due("apply", desk.apply(1, 0, 0, 1), 3);
        noneOutside("carried", 1, 3, desk::carried);
        noneOutside("back", 1, 3, desk::back);
    }

    private static void same() {
        Desk desk = desk();
        throwsOutside("same t", 0, 1, t -> desk.same(t, 0, 0, 0) ? 1 : 0);
        throwsOutside("same i", 0, 2, i -> desk.same(0, i, 0, 0) ? 1 : 0);
        throwsOutside("same i", 0, 1, i -> desk.same(1, i, 0, 2) ? 1 : 0);
        throwsOutside("same u", 0, 1, u -> desk.same(0, 0, u, 0) ? 1 : 0);
        throwsOutside("same j", 0, 2, j -> desk.same(0, 0, 0, j) ? 1 : 0);
        throwsOutside("same j", 0, 1, j -> desk.same(0, 2, 1, j) ? 1 : 0);
    }

    private static void write() {
        throwsOutside("write", 0, 1, t -> desk().write(t));
    }

    private static void out() {
        Desk desk = desk();
        for (int k : new int[] {Integer.MIN_VALUE, -1, 0, 1, Integer.MAX_VALUE}) {
            Check.due("out with " + k + " of nothing", desk.out(k), VariantDesk.NONE);
        }
        desk.apply(0, 0, 0, 0);
        noneOutside("out", 0, 5, desk::out);
        desk.write(1);
        noneOutside("out", 0, Check.table("r", "b 1 . C G . . . GT 1", "b 2 . C G . . . GT 1").length() - 1, desk::out);
    }

    private static void twoThatAreWrong() {
        Desk desk = desk();
        Check.dueIndex("sequence", () -> desk.sequence(2, 4));
        Check.dueIndex("letter", () -> desk.letter(-1, 9));
        Check.dueIndex("table", () -> desk.table(-1, -1));
        Check.dueIndex("record", () -> desk.record(2, 3, 6));
        Check.dueIndex("row", () -> desk.row(0, 3, 4, 99));
        Check.dueIndex("row", () -> desk.row(0, 0, 2, 99));
        Check.dueIndex("call", () -> desk.call(1, 2, 1, 4));
        Check.dueIndex("apply", () -> desk.apply(2, 2, 2, 2));
        Check.dueIndex("same", () -> desk.same(0, 0, 1, 2) ? 1 : 0);
        Check.dueIndex("same, though the first one has no ALT", () -> desk.same(0, 2, 2, 0) ? 1 : 0);
    }
}
