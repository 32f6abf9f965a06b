/** Promises 13 (split) and 14 (join). */
public final class SplitJoinTest {
    private static final String REFERENCE = ">a\nGGGCACACACAGGG\nTTTT\n>b\nAAAAAAAAAAAAAAAAAAAAAAAAAAAAAA\n";

    public static void main(String[] args) {
        splitting();
        splitLimit();
        joining();
        joinLimits();
        joinCalls();
        wrongArguments();
        Check.end("SplitJoinTest");
    }

    private static void splitting() {
        Desk desk = Check.desk(REFERENCE, "p q r", "a 4 i C G,T,CA 9 PASS . GT 1|3 2/. 0",
                "b 2 . A . . . . GT . 0/0 0|.", "a 4 j CAC C 1 . . GT 0 0|1 1/1");
        Check.due("split", desk.split(0), 5);
        Check.due("records", desk.table(0, 0), 5);
        Check.due("samples", desk.table(0, 1), 3);
        Check.dueRecords("split", desk, 0, "a 4 i C G 9 PASS . GT 1|0 0/. 0", "a 4 i C T 9 PASS . GT 0|0 1/. 0",
                "a 4 i C CA 9 PASS . GT 0|1 0/. 0", "b 2 . A . . . . GT . 0/0 0|.", "a 4 j CAC C 1 . . GT 0 0|1 1/1");
        Check.due("split again", desk.split(0), 5);
    }

    private static void splitLimit() {
        String[] twenty = new String[20];
        String[] more = new String[21];
        for (int k = 0; k < 20; k++) {
            twenty[k] = "b " + (k + 1) + " . A C,G,T . . .";
            more[k] = twenty[k];
        }
        more[20] = "b 1 . A . . . .";
        Desk desk = Check.desk(REFERENCE, "", twenty);
        Check.due("split into 60", desk.split(0), 60);
        Check.due("the last one", desk.row(0, 59, 1, 0), 'T');
        Check.dueLongRecords("split into 61: nothing changed", () -> {
            Desk full = Check.desk(REFERENCE, "", more);
            Check.due("split into 61", full.split(0), -1);
            return full;
        }, 0, more);
    }

    private static void joining() {
        joins("the longer ref", "", "a 4 i C G 9 PASS . | a 4 j CAC C . . .", "a 4 i CAC GAC,C 9 PASS .");
        joins("the longer ref first", "", "a 4 . CAC C . . . | a 4 . C G . . .", "a 4 . CAC C,GAC . . .");
        joins("alts that are there", "", "a 4 . CA C . . . | a 4 . CAC CC . . .", "a 4 . CAC CC . . .");
        joins("some of them", "", "a 4 . C G,T . . . | a 4 . CA TA,CC,GA . . .", "a 4 . CA GA,TA,CC . . .");
        joins("one by one", "", "a 4 . C G . . . | a 4 . C T . . . | a 4 . C A . . . | a 4 . C N . . . | a 4 . C G . . .",
                "a 4 . C G,T,A . . . | a 4 . C N,G . . .");
        joins("other places", "", "a 4 . C G . . . | a 5 . A G . . .", "a 4 . C G . . . | a 5 . A G . . .");
        joins("other sequences", "", "a 4 . C G . . . | b 4 . A G . . .", "a 4 . C G . . . | b 4 . A G . . .");
        joins("no alts", "", "a 4 . C G . . . | a 4 . C . . . . | a 4 . C T . . .",
                "a 4 . C G . . . | a 4 . C . . . . | a 4 . C T . . .");
        joins("no alts, two", "", "a 4 . C . . . . | a 4 . C . . . .", "a 4 . C . . . . | a 4 . C . . . .");
        joins("not side by side", "", "a 4 . C G . . . | a 5 . A G . . . | a 4 . C T . . .",
                "a 4 . C G . . . | a 5 . A G . . . | a 4 . C T . . .");
        joins("the first one's", "", "a 4 . C G . . . | a 4 j C G 9 PASS .", "a 4 . C G . . .");
        joins("three alts and three", "", "a 4 . C G,T,A . . . | a 4 . CA TA,AA,GA . . .", "a 4 . CA GA,TA,AA . . .");
        joins("none", "", "", "");
    }

    private static void joinLimits() {
        String as = Check.repeat("A", 24);
        String grown = "C" + as.substring(1);
        joins("rows of 24", "", "b 1 . A C . . . | b 1 . " + as + " A . . .", "b 1 . " + as + " " + grown + ",A . . .");
        joins("rows of 25", "", "b 1 . A CC . . . | b 1 . " + as + " A . . .",
                "b 1 . A CC . . . | b 1 . " + as + " A . . .");
        joins("rows of 25, the second one's", "", "b 1 . " + as + " A . . . | b 1 . A CC . . .",
                "b 1 . " + as + " A . . . | b 1 . A CC . . .");
        joins("four alts", "", "a 4 . C G,T . . . | a 4 . CA C,A . . . | a 4 . C N . . .",
                "a 4 . C G,T . . . | a 4 . CA C,A,NA . . .");
        joins("a chain that goes on behind", "", "a 4 . C G,T . . . | a 4 . C A,N . . . | a 4 . C G . . . | a 5 . A C . . .",
                "a 4 . C G,T . . . | a 4 . C A,N,G . . . | a 5 . A C . . .");
    }

    private static void joinCalls() {
        // The first one's call, the second one's, and what comes of them; the second one's alt has number 2 then.
        String[] calls = {"1 1 1", "1 0 1", "1 . 1", "0 1 2", ". 1 2", "0 0 0", "0 . 0", ". 0 0", ". . .",
            "0/1 1/1 2/1", "0|1 1|0 2|1", "0|1 1/0 2/1", "0/1 1|0 2/1", "1 0|1 1|2", "1 0/1 1/2", "0|1 1 2|1", "0/1 . 0/1",
            ". 0|. 0|.", ". .|0 .|0", "1 .|0 1|0", "0 .|. 0|.", "1|. . 1|.", ".|0 1 2|0", "./. 0 0/."};
        for (String line : calls) {
            String[] call = line.split(" ");
            joins("calls " + line, "p", "a 4 . C G . . . GT " + call[0] + " | a 4 . C T . . . GT " + call[1],
                    "a 4 . C G,T . . . GT " + call[2]);
        }
        joins("numbers that change", "p q r", "a 4 . C G,T . . . GT 0 .|. 2 | a 4 . C A,T . . . GT 2 1|2 1",
                "a 4 . C G,T,A . . . GT 2 3|2 2");
        joins("three", "p", "a 4 . C G . . . GT 0/. | a 4 . CA C . . . GT 0/1 | a 4 . C N . . . GT 1",
                "a 4 . CA GA,C,NA . . . GT 3/2");
    }

    private static void wrongArguments() {
        Desk desk = new Desk();
        for (int bad : new int[] {-1, 2, Integer.MAX_VALUE, Integer.MIN_VALUE}) {
            Check.dueIndex("split", () -> desk.split(bad));
            Check.dueIndex("join", () -> desk.join(bad));
        }
    }

    private static void joins(String what, String samples, String records, String joined) {
        String[] before = records.isEmpty() ? new String[0] : records.split(" \\| ");
        String[] after = joined.isEmpty() ? new String[0] : joined.split(" \\| ");
        Desk desk = Check.desk(REFERENCE, samples, before);
        Check.due(what, desk.join(0), after.length);
        Check.dueRecords(what, desk, 0, after);
        Check.due(what + ", records", desk.table(0, 0), after.length);
    }
}
