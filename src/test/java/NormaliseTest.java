import java.util.Arrays;

/** Promises 12 (normalise) and 20 (same). */
public final class NormaliseTest {
    private static final String REFERENCE = ">a\nGGGCACACACAGGG\nTTTT\n>b\nAAAAA\n";

    public static void main(String[] args) {
        normal();
        untouched();
        longRows();
        fullTable();
        recordsThatAreNoMore();
        wrongArguments();
        same();
        Check.end("NormaliseTest");
    }

    private static void normal() {
        becomes("a 9 x ACA A 5 PASS .", "a 3 x GCA G 5 PASS .");
        becomes("a 4 . CACA CACACA . . .", "a 3 . G GCA . . .");
        becomes("a 15 . TTTT T . . .", "a 14 . GTTT G . . .");
        becomes("a 3 . GCA GTA . . .", "a 4 . C T . . .");
        becomes("a 1 . GGGC GGGT . . .", "a 4 . C T . . .");
        becomes("a 3 . GCAC GTAC,GAAC . . .", "a 4 . C T,A . . .");
        becomes("a 4 . CA CAA,TA . . .", "a 4 . C CA,T . . .");
        // At the first place nothing can come before.
        becomes("b 5 . A AA . . .", "b 1 . A AA . . .");
        becomes("b 2 . AA A . . .", "b 1 . AA A . . .");
        becomes("b 1 . AAA AA,A . . .", "b 1 . AAA AA,A . . .");
        becomes("b 1 . AA CA . . .", "b 1 . A C . . .");
        becomes("b 1 . AC A . . .".replace("AC", "AA"), "b 1 . AA A . . .");
        becomes("a 5 . ACAC ACACAC,AC . . .", "a 3 . GCA GCACA,G . . .");
        // Letters before are taken one by one, and the last one that all have goes again.
        becomes("a 12 . G GG . . .", "a 11 . A AG . . .");
        becomes("a 3 . GCAC GTAC,GAAC,GNAC . . .", "a 4 . C T,A,N . . .");
        becomes("a 18 . T TT,TTT . . .", "a 14 . G GT,GTT . . .");
    }

    private static void untouched() {
        becomes("a 4 . C . . . .", "a 4 . C . . . .");
        becomes("a 4 . CACA . . . .", "a 4 . CACA . . . .");
        becomes("a 4 . C T . . .", "a 4 . C T . . .");
        becomes("a 4 . CA TG . . .", "a 4 . CA TG . . .");
        Desk desk = Check.desk(REFERENCE, "p q", "a 15 . TTTT T . . . GT 0|1 .", "a 4 . C T 7 PASS . GT 1 1/0",
                "a 2 . GG . . . . GT 0 0", "a 18 . T TT . . . GT 1 1");
        Check.due("how many became others", desk.normalise(0), 2);
        Check.dueRecords("normalise", desk, 0, "a 14 . GTTT G . . . GT 0|1 .", "a 4 . C T 7 PASS . GT 1 1/0",
                "a 2 . GG . . . . GT 0 0", "a 14 . G GT . . . GT 1 1");
        Check.due("again", desk.normalise(0), 0);
        Check.due("the other table", desk.normalise(1), 0);
    }

    private static void longRows() {
        String as = Check.repeat("A", 24);
        Desk desk = Check.desk(">a\nC" + Check.repeat("A", 299) + "\n", "", "a 300 . A " + as + " . . .",
                "a 277 . " + as + " A . . .", "a 200 . " + as + " " + as.substring(1) + "," + as.substring(2) + " . . .");
        Check.due("normalise", desk.normalise(0), 3);
        String c = "C" + as.substring(1);
        Check.dueRecords("rows of 24 letters", desk, 0, "a 1 . C " + c + " . . .", "a 1 . " + c + " C . . .",
                "a 1 . CAA CA,C . . .");
    }

    private static void fullTable() {
        String[] sixty = new String[60];
        for (int k = 0; k < 60; k++) {
            sixty[k] = "a 15 r" + k + " TT TTT,T,TTTT . . .";
        }
        Desk desk = Check.desk(REFERENCE, "", sixty);
        Check.due("sixty with three alts", desk.normalise(0), 60);
        Check.due("the last one's place", desk.record(0, 59, 1), 14);
        Check.due("the last one's last row", desk.row(0, 59, 3, -1), 4);
    }

    /** The spare rows of a smaller table may hold what larger ones had: they do not count. */
    private static void recordsThatAreNoMore() {
        String[] ten = new String[10];
        Arrays.fill(ten, "a 15 . TT TTT . . .");
        Desk desk = Check.desk(REFERENCE, "", ten);
        for (int k = 0; k < 3; k++) {
            desk.write(0);
            desk.again();
            Check.due("read again", desk.read(0), 10);
        }
        Check.read(desk, 0, Check.table("", "a 4 . C T . . ."));
        Check.due("records that are no more", desk.normalise(0), 0);
    }

    private static void wrongArguments() {
        Desk desk = Check.desk(REFERENCE, "", "a 4 . C T . . .");
        for (int bad : new int[] {-1, 2, Integer.MAX_VALUE, Integer.MIN_VALUE}) {
            Check.dueIndex("normalise", () -> desk.normalise(bad));
            Check.dueIndex("same", () -> desk.same(bad, 0, 0, 0) ? 1 : 0);
            Check.dueIndex("same", () -> desk.same(0, bad, 0, 0) ? 1 : 0);
            Check.dueIndex("same", () -> desk.same(0, 0, bad, 0) ? 1 : 0);
            Check.dueIndex("same", () -> desk.same(0, 0, 0, bad) ? 1 : 0);
        }
        Check.dueIndex("same", () -> desk.same(0, 0, 1, 0) ? 1 : 0);
        Check.due("same", desk.same(0, 0, 0, 0) ? 1 : 0, 1);
    }

    private static void same() {
        means("a 9 . ACA A . . .", "a 4 . CAC C . . .", true);
        means("a 9 . ACA A . . .", "a 3 . GCA G . . .", true);
        means("a 9 . ACA A . . .", "a 3 . GCACA GCA . . .", true);
        means("a 1 . G GG . . .", "a 3 . G GG . . .", true);
        means("a 1 . G GG . . .", "a 12 . G GG . . .", false);
        means("a 1 . G GG . . .", "a 1 . G GGG . . .", false);
        means("a 1 . G T . . .", "a 2 . G T . . .", false);
        means("a 4 . C T . . .", "a 3 . GCA GTA . . .", true);
        means("a 15 . T TT . . .", "a 18 . T TT . . .", true);
        means("a 15 . TT T . . .", "a 17 . TT T . . .", true);
        means("a 1 . GG G . . .", "a 17 . TT T . . .", false);
        means("a 1 . G A . . .", "b 1 . A C . . .", false);
        means("b 1 . A C . . .", "b 1 . A C 5 PASS .", true);
        means("a 4 . C T,G . . .", "a 4 . C T,G . . .", false);
        means("a 4 . C T,G . . .", "a 4 . C T . . .", false);
        means("a 4 . C . . . .", "a 4 . C . . . .", false);
        means("a 4 . C . . . .", "a 4 . C T . . .", false);
    }

    private static void becomes(String record, String normal) {
        Desk desk = Check.desk(REFERENCE, "", record);
        Check.due("normalise of " + record, desk.normalise(0), record.equals(normal) ? 0 : 1);
        Check.dueRecords("normalise of " + record, desk, 0, normal);
    }

    private static void means(String record, String other, boolean want) {
        Desk desk = Check.desk(REFERENCE, "", record, other);
        Check.read(desk, 1, Check.table("", other));
        String what = "same of " + record + " and " + other;
        Check.due(what, desk.same(0, 0, 0, 1) ? 1 : 0, want ? 1 : 0);
        Check.due(what, desk.same(0, 1, 0, 0) ? 1 : 0, want ? 1 : 0);
        Check.due(what, desk.same(0, 0, 1, 0) ? 1 : 0, want ? 1 : 0);
    }
}
