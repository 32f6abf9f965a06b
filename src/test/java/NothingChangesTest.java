import java.util.function.ToLongFunction;

/**
 * "A call that throws, or answers NONE, changes nothing (but THE TAPE, where it is read)": all that can be seen of an
 * object after such a call is what can be seen of one that the same calls were made on, but for that one.
 */
public final class NothingChangesTest {
    private static final String REFERENCE = ">a of it\nACGTACGT\nAC\n>b\nTTTT\n";
    private static final int[] NO_INDEX = {Integer.MIN_VALUE, -1, 8, Integer.MAX_VALUE};

    private static String seen;

    public static void main(String[] args) {
        seen = Looks.all(NothingChangesTest::busy);
        thatLooksSeeAll();
        feedThrows();
        referenceFaults();
        readFaults();
        readThrows();
        looksThrow();
        looksAnswerNone();
        changesThrow();
        splitNone();
        mergeNone();
        applyThrows();
        applyNone();
        sameThrows();
        writeThrows();
        writeNone();
        Check.end("NothingChangesTest");
    }

    /** Something of everything: a fault, two tables that are in no order, what was put on, OUT, and a tape. */
    private static Desk busy() {
        Desk desk = new Desk();
        Check.reference(desk, "xx");
        Check.reference(desk, REFERENCE);
        Check.read(desk, 0, Check.table("p q", "b 2 i T TT,A,C 5 PASS . GT 1|2 .", "a 9 . AC A . . . GT 1|1 0/1",
                "a 9 j A C 0 . . GT 0|1 .", "a 3 . GT . . PASS . GT 0 0", "b 3 . TT T . . . GT 0 0"));
        Check.read(desk, 1, Check.table("r", "b 2 k T TT,A,C . . . GT 3", "a 5 . AC GC 9 . . GT 1/."));
        Check.due("apply", desk.apply(0, 0, 0, 0), 9);
        Check.feed(desk, Check.FORMAT + Check.HEAD + "\na\t1\tz\tA\tC,G\t7\tPASS\t.");
        return desk;
    }

    private static void stays(String what, String due, ToLongFunction<Desk> call) {
        stays(what, due, NothingChangesTest::busy, seen, call);
    }

    private static void stays(String what, String due, Check.Maker maker, String before, ToLongFunction<Desk> call) {
        Check.due(what, Check.outcome(() -> call.applyAsLong(maker.make())), due);
        Check.due("what is seen after " + what, Looks.all(() -> {
            Desk desk = maker.make();
            Check.outcome(() -> call.applyAsLong(desk));
            return desk;
        }), before);
    }

    private static void staysAfterIndex(String what, ToLongFunction<Desk> call) {
        stays(what, "IndexOutOfBoundsException", call);
    }

    /** Calls that change one thing each: were one of them not seen, this test would show nothing. */
    private static void thatLooksSeeAll() {
        seesAfter("feed", d -> d.feed(1, '.'));
        seesAfter("reference", Desk::reference);
        seesAfter("read 0", d -> d.read(0));
        seesAfter("read 1", d -> d.read(1));
        seesAfter("normalise 0", d -> d.normalise(0));
        seesAfter("normalise 1", d -> d.normalise(1));
        seesAfter("split 0", d -> d.split(0));
        seesAfter("split 1", d -> d.split(1));
        seesAfter("join", d -> d.join(0));
        seesAfter("sort 0", d -> d.sort(0));
        seesAfter("sort 1", d -> d.sort(1));
        seesAfter("merge", Desk::merge);
        seesAfter("apply", d -> d.apply(0, 0, 0, 1));
        seesAfter("write", d -> d.write(0));
        seesAfter("again", Desk::again);
    }

    private static void seesAfter(String what, ToLongFunction<Desk> call) {
        String after = Looks.all(() -> {
            Desk desk = busy();
            call.applyAsLong(desk);
            return desk;
        });
        Check.due("whether a change is seen after " + what, after.equals(seen) ? 0 : 1, 1);
    }

    private static void feedThrows() {
        for (int n : new int[] {Integer.MIN_VALUE, -1, 0, 9, Integer.MAX_VALUE}) {
            stays("feed " + n, "IllegalArgumentException", d -> d.feed(n, 0x2121212121212121L));
        }
        Check.Maker full = () -> Big.onTape(7998);
        String before = Looks.all(full);
        stays("feed of three behind 7998", "IllegalArgumentException", full, before, d -> d.feed(3, 0));
        stays("feed of eight behind 7998", "IllegalArgumentException", full, before, d -> d.feed(8, 0));
    }

    private static void referenceFaults() {
        String[] texts = {"", ">", ">\n", ">abcdefghijklmnopqrstu\n", ">a\nA\n>a\nA\n", ">a\nAC\nACG\n", ">a\nAC\nA\nA\n"};
        int[] faults = {-1, -1, -2, -3, -4, -5, -5};
        for (int k = 0; k < texts.length; k++) {
            String text = texts[k];
            int fault = faults[k];
            onlyTheTapeChanges("reference of " + text, d -> {
                d.read(0);
                Check.due("reference of " + text, Check.reference(d, text), fault);
            });
        }
    }

    private static void readFaults() {
        String line = "a\t1\t.\tA\tC\t.\t.\t.\n";
        String[] texts = {"", Check.FORMAT, Check.table("x y z").trim(), "x\n", Check.FORMAT + "x\n", Check.table("x x"),
            Check.table("", "a 1 . A C . . .", "x"), Check.table("x", "a 1 . A C . . . GT 1", "a 1 . A C . . . GT 2"),
            Check.table("", "a 1 . A C . . .", "a 1 . C A . . ."), Check.table("") + Check.repeat(line, 61)};
        int[] faults = {-1, -1, -1, -2, -2, -2, -3, -4, -5, -6};
        for (int k = 0; k < texts.length; k++) {
            String text = texts[k];
            int fault = faults[k];
            for (int n = 0; n < 2; n++) {
                int t = n;
                onlyTheTapeChanges("read of " + text, d -> {
                    d.read(t);
                    Check.due("read of " + text, Check.read(d, t, text), fault);
                });
            }
        }
    }

    private interface Act {
        void on(Desk desk);
    }

    /** A fault uses the tape up and has a place; behind one more, at 0, all is as if that one were the only one. */
    private static void onlyTheTapeChanges(String what, Act act) {
        Check.due("what is seen after " + what, Looks.all(() -> {
            Desk desk = busy();
            act.on(desk);
            return faultAt0(desk);
        }), Looks.all(() -> faultAt0(busy())));
    }

    /** The tape does not end with a LINE END, so that the first call uses it up; the second one finds nothing on it. */
    private static Desk faultAt0(Desk desk) {
        desk.read(0);
        desk.read(0);
        return desk;
    }

    private static void readThrows() {
        for (int t : new int[] {Integer.MIN_VALUE, -1, 2, Integer.MAX_VALUE}) {
            staysAfterIndex("read " + t, d -> d.read(t));
        }
    }

    private static void looksThrow() {
        for (int n : NO_INDEX) {
            staysAfterIndex("sequence s " + n, d -> d.sequence(n, 0));
            staysAfterIndex("sequence what " + n, d -> d.sequence(0, n));
            staysAfterIndex("letter s " + n, d -> d.letter(n, 1));
            staysAfterIndex("table t " + n, d -> d.table(n, 0));
            staysAfterIndex("table what " + n, d -> d.table(0, n));
            staysAfterIndex("record t " + n, d -> d.record(n, 0, 0));
            staysAfterIndex("record i " + n, d -> d.record(0, n, 0));
            staysAfterIndex("record what " + n, d -> d.record(0, 0, n));
            staysAfterIndex("row t " + n, d -> d.row(n, 0, 0, 0));
            staysAfterIndex("row i " + n, d -> d.row(0, n, 0, 0));
            staysAfterIndex("row row " + n, d -> d.row(0, 0, n, 0));
            staysAfterIndex("call t " + n, d -> d.call(n, 0, 0, 0));
            staysAfterIndex("call i " + n, d -> d.call(0, n, 0, 0));
            staysAfterIndex("call sample " + n, d -> d.call(0, 0, n, 0));
            staysAfterIndex("call what " + n, d -> d.call(0, 0, 0, n));
        }
        for (int place : new int[] {Integer.MIN_VALUE, -1, 11, Integer.MAX_VALUE}) {
            staysAfterIndex("letter place " + place, d -> d.letter(0, place));
        }
    }

    private static void looksAnswerNone() {
        stays("place before a fault", "-1", Desk::new, Looks.all(Desk::new), Desk::place);
        stays("table without a third SAMPLE", "-1", d -> d.table(0, 4));
        stays("record without QUALITY", "-1", d -> d.record(0, 1, 3));
        stays("row without such a LETTER", "-1", d -> d.row(0, 0, 0, 1));
        stays("row with k = -2", "-1", d -> d.row(0, 0, 0, -2));
        stays("call that is NONE", "-1", d -> d.call(0, 0, 1, 0));
        stays("call without a second one", "-1", d -> d.call(0, 0, 1, 1));
        for (int n : new int[] {Integer.MIN_VALUE, -1, 60, Integer.MAX_VALUE}) {
            stays("carried " + n, "-1", d -> d.carried(n));
            stays("back " + n, "-1", d -> d.back(n));
            stays("out " + n, "-1", d -> d.out(n));
        }
        stays("carried to none", "-1", d -> d.carried(10));
        stays("out of nothing", "-1", Desk::new, Looks.all(Desk::new), d -> d.out(0));
        stays("carried of nothing", "-1", Desk::new, Looks.all(Desk::new), d -> d.carried(1));
        stays("back of nothing", "-1", Desk::new, Looks.all(Desk::new), d -> d.back(1));
    }

    private static void changesThrow() {
        for (int t : new int[] {Integer.MIN_VALUE, -1, 2, Integer.MAX_VALUE}) {
            staysAfterIndex("normalise " + t, d -> d.normalise(t));
            staysAfterIndex("split " + t, d -> d.split(t));
            staysAfterIndex("join " + t, d -> d.join(t));
            staysAfterIndex("sort " + t, d -> d.sort(t));
        }
    }

    /** The busy desk, with other records in one of its tables. */
    private static Desk with(int t, String samples, String... records) {
        Desk desk = new Desk();
        Check.reference(desk, REFERENCE);
        Check.read(desk, 1 - t, Check.table("r", "b 2 k T TT,A,C . . . GT 3", "a 5 . A G 9 . . GT 1/."));
        desk.apply(1 - t, 0, 0, 0);
        Check.due("read", Check.read(desk, t, Check.table(samples, records)), records.length);
        Check.feed(desk, Check.FORMAT + Check.HEAD + "\na\t1\tz\tA\tC,G\t7\tPASS\t.");
        return desk;
    }

    private static String[] many(int count, String alts, String calls) {
        String[] records = new String[count];
        for (int i = 0; i < count; i++) {
            records[i] = "b " + (4 - i % 4) + " . T " + alts + " . . ." + calls;
        }
        return records;
    }

    private static void splitNone() {
        for (int n = 0; n < 2; n++) {
            int t = n;
            Check.Maker maker = () -> with(t, "p", many(21, "A,C,G", " GT 1|3"));
            stays("split beyond 60", "-1", maker, Looks.all(maker), d -> d.split(t));
        }
    }

    private static void mergeNone() {
        mergeStays("beyond 60 RECORDS", () -> with(0, "", many(60, "A", "")));
        mergeStays("beyond 60 RECORDS, TABLE 1", () -> with(1, "", many(59, "A", "")));
        mergeStays("beyond 3 SAMPLES", () -> with(0, "p q s", many(2, "A", " GT 1 0|1 .")));
        mergeStays("beyond 3 SAMPLES, TABLE 1", () -> with(1, "p q s", many(2, "A", " GT 1 0|1 .")));
        mergeStays("one NAME twice", () -> with(0, "p r", many(2, "A", " GT 1 0|1")));
        mergeStays("one NAME twice, TABLE 1", () -> with(1, "p r", many(2, "A", " GT 1 0|1")));
    }

    private static void mergeStays(String what, Check.Maker maker) {
        stays("merge " + what, "-1", maker, Looks.all(maker), Desk::merge);
    }

    private static void applyThrows() {
        for (int n : NO_INDEX) {
            staysAfterIndex("apply t " + n, d -> d.apply(n, 0, 0, 0));
            staysAfterIndex("apply sample " + n, d -> d.apply(0, n, 0, 0));
            staysAfterIndex("apply which " + n, d -> d.apply(0, 0, n, 0));
            staysAfterIndex("apply s " + n, d -> d.apply(0, 0, 0, n));
        }
        staysAfterIndex("apply sample 1 of one", d -> d.apply(1, 1, 0, 0));
    }

    private static void applyNone() {
        stays("apply of RECORDS that CLASH", "-1", d -> d.apply(0, 0, 1, 0));
        Check.Maker maker = () -> with(0, "p", "b 1 . TT A . . . GT 1", "b 4 . T A . . . GT 1", "b 2 . T A . . . GT 1");
        stays("apply of others that CLASH", "-1", maker, Looks.all(maker), d -> d.apply(0, 0, 0, 1));
    }

    private static void sameThrows() {
        for (int n : NO_INDEX) {
            staysAfterIndex("same t " + n, d -> d.same(n, 0, 0, 0) ? 1 : 0);
            staysAfterIndex("same i " + n, d -> d.same(0, n, 0, 0) ? 1 : 0);
            staysAfterIndex("same u " + n, d -> d.same(0, 0, n, 0) ? 1 : 0);
            staysAfterIndex("same j " + n, d -> d.same(0, 0, 0, n) ? 1 : 0);
        }
    }

    private static void writeThrows() {
        for (int t : new int[] {Integer.MIN_VALUE, -1, 2, Integer.MAX_VALUE}) {
            staysAfterIndex("write " + t, d -> d.write(t));
        }
    }

    private static void writeNone() {
        Check.Maker maker = () -> {
            Desk desk = Big.desk(8001);
            desk.apply(0, 0, 0, 0);
            return desk;
        };
        stays("write of 8001 octets", "-1", maker, Looks.all(maker), d -> d.write(0));
    }
}
