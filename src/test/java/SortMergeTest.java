/** Promises 15 (sort) and 16 (merge). */
public final class SortMergeTest {
    private static final String REFERENCE = ">a\nGGGCACACACAGGG\n>b\nAAAAAAAAAA\n";

    public static void main(String[] args) {
        sorting();
        merging();
        pairs();
        oldCallsAreGone();
        samples();
        mergeNone();
        wrongArguments();
        Check.end("SortMergeTest");
    }

    private static void sorting() {
        Desk desk = Check.desk(REFERENCE, "p", "b 3 i A C . . . GT 1", "a 12 j G . . . . GT 0",
                "a 2 k G T 5 PASS . GT 0/1", "a 12 l G A . . . GT .", "b 3 m A . . . . GT 0");
        Check.due("how many stand somewhere else", desk.sort(0), 3);
        Check.dueRecords("sort", desk, 0, "a 2 k G T 5 PASS . GT 0/1", "a 12 j G . . . . GT 0", "a 12 l G A . . . GT .",
                "b 3 i A C . . . GT 1", "b 3 m A . . . . GT 0");
        Check.due("sorted already", desk.sort(0), 0);
        Check.due("an empty one", desk.sort(1), 0);
        String[] sixty = new String[60];
        for (int k = 0; k < 60; k++) {
            sixty[k] = "b " + (10 - k / 6) + " r" + k + " A . . . .";
        }
        desk = Check.desk(REFERENCE, "", sixty);
        Check.due("sixty", desk.sort(0), 60);
        Check.due("the first place", desk.record(0, 0, 1), 1);
        Check.due("the last place", desk.record(0, 59, 1), 10);
        Check.due("again", desk.sort(0), 0);
    }

    private static void merging() {
        Desk desk = Check.desk(REFERENCE, "p", "b 3 i A C 1 . . GT 1", "a 12 j G . . . . GT 0|1".replace("0|1", "0|0"),
                "a 2 k G T 5 PASS . GT 0/1");
        Check.read(desk, 1, Check.table("q r", "b 3 x A C 9 PASS . GT 0 1|1", "a 12 y G A . . . GT 1 .",
                "a 1 z G T . . . GT 1/. 0", "b 3 u A G . . . GT 1 1"));
        Check.due("merge", desk.merge(), 1);
        Check.dueRecords("merge", desk, 0, "a 1 z G T . . . GT . 1/. 0", "a 2 k G T 5 PASS . GT 0/1 . .",
                "a 12 j G . . . . GT 0|0 . .", "a 12 y G A . . . GT . 1 .", "b 3 i A C 1 . . GT 1 0 1|1",
                "b 3 u A G . . . GT . 1 1");
        Check.due("samples", desk.table(0, 1), 3);
        Check.due("table 1", desk.table(1, 0), 0);
        Check.due("its samples", desk.table(1, 1), 0);
        Check.due("the name of a sample", desk.table(1, 2), -1);
        Check.due("merge with nothing", desk.merge(), 0);
        Check.due("read into table 1", Check.read(desk, 1, Check.table("", "a 1 . G A . . .")), 1);
        Check.due("merge without samples", desk.merge(), 0);
        Check.due("a call that there was not", desk.call(0, 1, 2, 2), 1);
        Check.due("a call that there was not", desk.call(0, 1, 2, 0), -1);
    }

    private static void pairs() {
        Desk desk = Check.desk(REFERENCE, "", "a 4 . C G,T . . .", "a 4 i C G . . .", "a 4 j C G 3 PASS .", "a 5 . A . . . .");
        Check.read(desk, 1, Check.table("q", "a 4 r C T,G . . . GT 1", "a 4 s C G 8 PASS . GT 0", "a 4 t C G . . . GT 1",
                "a 4 u C G . . . GT 0|1", "a 4 v CA GA . . . GT 1", "a 5 w A . . . . GT 0/0"));
        Check.due("merge", desk.merge(), 3);
        Check.dueRecords("pairs", desk, 0, "a 4 . C G,T . . . GT .", "a 4 i C G . . . GT 0", "a 4 j C G 3 PASS . GT 1",
                "a 4 r C T,G . . . GT 1", "a 4 u C G . . . GT 0|1", "a 4 v CA GA . . . GT 1", "a 5 . A . . . . GT 0/0");
        desk = Check.desk(REFERENCE, "p", "a 4 i C G . . . GT 0|1");
        Check.read(desk, 1, Check.table("", "a 4 s C G 8 PASS .", "a 3 . G T . . ."));
        Check.due("merge", desk.merge(), 1);
        Check.dueRecords("the second one has no samples", desk, 0, "a 3 . G T . . . GT .", "a 4 i C G . . . GT 0|1");
    }

    private static void oldCallsAreGone() {
        Desk desk = new Desk();
        Check.reference(desk, REFERENCE);
        for (int k = 0; k < 3; k++) {
            Check.read(desk, 0, Check.table("pz qz", "a 4 . C G,T,A . . . GT 1|2 3|2"));
            Check.read(desk, 1, Check.table("pz qz", "a 4 . C G,T,A . . . GT 1|2 3|2"));
        }
        Check.read(desk, 0, Check.table("p", "a 4 . C G,T,A . . . GT 1", "a 5 . A C . . . GT 1"));
        Check.read(desk, 1, Check.table("p"));
        Check.due("a name that others had longer", desk.merge(), -1);
        Check.read(desk, 1, Check.table("q", "a 4 . C G,T,A . . . GT 3"));
        Check.due("merge", desk.merge(), 1);
        Check.dueRecords("merge", desk, 0, "a 4 . C G,T,A . . . GT 1 3", "a 5 . A C . . . GT 1 .");
        for (int i = 0; i < 2; i++) {
            Check.due("no second call", desk.call(0, i, 1, 1), -1);
            Check.due("one call", desk.call(0, i, 1, 2), 1);
            Check.due("not phased", desk.call(0, i, 1, 3), 0);
        }
        Check.due("nothing is put on by a call that there is not", desk.apply(0, 1, 1, 0), 14);
        Check.due("out", Check.out(desk), "GGGCACACACAGGG");
    }

    private static void samples() {
        Desk desk = Check.desk(REFERENCE, "p qq");
        Check.read(desk, 1, Check.table("rrr"));
        Check.due("merge", desk.merge(), 0);
        Check.due("samples", desk.table(0, 1), 3);
        for (int sample = 0; sample < 3; sample++) {
            Check.due("name", desk.table(0, 2 + sample), sample + 1);
        }
        desk.write(0);
        Check.due("names", Check.out(desk), Check.table("p qq rrr"));
    }

    private static void mergeNone() {
        none("four samples", "p q", "r s", 1, 1);
        none("one name twice", "p q", "q", 1, 1);
        none("61 records", "p", "q", 60, 2);
        Desk desk = Check.desk(REFERENCE, "p", backwards("p", 30));
        Check.read(desk, 1, Check.table("q", backwards("q", 30)));
        Check.due("60 records become 30", desk.merge(), 30);
        desk = Check.desk(REFERENCE, "p", backwards("p", 60));
        Check.read(desk, 1, Check.table("q", backwards("q", 60)));
        Check.due("120 records become 60", desk.merge(), 60);
        Check.due("records", desk.table(0, 0), 60);
    }

    /** Table 1 has a record that table 0 has not behind those that it has. */
    private static void none(String what, String samples, String others, int size, int otherSize) {
        String[] own = backwards(samples, size);
        String[] more = backwards(others, otherSize);
        more[otherSize - 1] = more[otherSize - 1].replace("A C", "A G");
        Check.Maker maker = () -> {
            Desk desk = Check.desk(REFERENCE, samples, own);
            Check.read(desk, 1, Check.table(others, more));
            Check.due(what, desk.merge(), -1);
            return desk;
        };
        Check.dueLongRecords(what + ": table 0 stays", maker, 0, own);
        Check.dueLongRecords(what + ": table 1 stays", maker, 1, more);
    }

    private static String[] backwards(String samples, int size) {
        String[] records = new String[size];
        for (int k = 0; k < size; k++) {
            records[k] = "b " + (10 - k / 6) + " r" + k + " A C . . . GT" + Check.repeat(" 1", samples.split(" ").length);
        }
        return records;
    }

    private static void wrongArguments() {
        Desk desk = new Desk();
        for (int bad : new int[] {-1, 2, Integer.MAX_VALUE, Integer.MIN_VALUE}) {
            Check.dueIndex("sort", () -> desk.sort(bad));
        }
    }
}
