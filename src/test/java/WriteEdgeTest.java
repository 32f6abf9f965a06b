/** The edges of promise 21 (write). */
public final class WriteEdgeTest {
    private static final String REFERENCE = ">a\nACGTACGTACGTACGTACGTACGT\n>abcdefghijklmnopqrst\nA\n";

    public static void main(String[] args) {
        nothing();
        withoutSamples();
        withoutRecords();
        exactly8000();
        moreThan8000();
        everyNumberOfDigits();
        whatMayBeMissing();
        nothingButWhatItMustHave();
        theLongestLine();
        sixtyRecords();
        theTextIsReadAgain();
        Check.end("WriteEdgeTest");
    }

    private static void writes(String what, Desk desk, int t, String text) {
        Check.due("write: " + what, desk.write(t), text.length());
        Check.due("write: " + what, Check.out(desk), text);
    }

    private static void nothing() {
        for (int t = 0; t < 2; t++) {
            writes("a new object", new Desk(), t, Check.FORMAT + Check.HEAD + "\n");
        }
    }

    private static void withoutSamples() {
        writes("no SAMPLES", Check.desk(REFERENCE, "", "a 1 . A C . . ."), 0,
                Check.FORMAT + Check.HEAD + "\na\t1\t.\tA\tC\t.\t.\t.\n");
    }

    private static void withoutRecords() {
        writes("no RECORDS", Check.desk(REFERENCE, "p"), 0, Check.FORMAT + Check.HEAD + "\tFORMAT\tp\n");
        writes("no RECORDS", Check.desk(REFERENCE, "p q r"), 0, Check.FORMAT + Check.HEAD + "\tFORMAT\tp\tq\tr\n");
        writes("nothing in the other TABLE", Check.desk(REFERENCE, "p", "a 1 . A C . . . GT 1"), 1, Check.FORMAT + Check.HEAD + "\n");
    }

    private static void exactly8000() {
        Desk desk = Big.desk(8000);
        Check.due("8000 octets", desk.write(0), 8000);
        Check.due("the last one", desk.out(7999), '\n');
        Check.due("none behind", desk.out(8000), -1);
        Check.due("again", desk.again(), 8000);
        Check.due("read", desk.read(1), 60);
        Check.due("7999 octets", Big.desk(7999).write(0), 7999);
    }

    private static void moreThan8000() {
        for (int octets : new int[] {8001, 8002, Big.MOST}) {
            Desk desk = Big.desk(octets);
            Check.due("write of the other TABLE", desk.write(1), 60);
            Check.due(octets + " octets", desk.write(0), -1);
            Check.due("OUT stays", Check.out(desk), Check.table(""));
            Check.due("again", desk.again(), 60);
            Check.due("write of the other TABLE after that", desk.write(1), 60);
            Check.due("OUT is that", Check.out(desk), Check.table(""));
        }
    }

    private static void everyNumberOfDigits() {
        int[] qualities = {0, 1, 9, 10, 99, 100, 101, 999, 1000, 9999, 10000, 99999, 100000, 999999};
        for (int quality : qualities) {
            String table = Check.table("", "a 10 . C . " + quality + " . .");
            writes("QUALITY " + quality, Check.desk(REFERENCE, "", "a 10 . C . " + quality + " . ."), 0, table);
        }
        Desk desk = new Desk();
        Check.reference(desk, ">a\n" + Check.repeat("A", 3000) + "\n");
        for (int place : new int[] {1, 9, 10, 100, 999, 1000, 3000}) {
            Check.read(desk, 0, Check.table("", "a " + place + " . A . . . ."));
            desk.write(0);
            int end = Check.table("", "a " + place).length() - 1;
            Check.due("the last digit of " + place, desk.out(end - 1), '0' + place % 10);
            Check.due("a tab behind " + place, desk.out(end), '\t');
        }
    }

    private static void whatMayBeMissing() {
        String[] records = {"a 1 . A . . . . GT . ./.", "a 1 . A C . . . GT 0 .|.", "a 1 x A . . . . GT . 0/.", "a 1 . A . 0 . . GT . .|0",
            "a 1 . A . . PASS . GT . 0"};
        for (String record : records) {
            writes(record, Check.desk(REFERENCE, "p q", record), 0, Check.table("p q", record));
        }
    }

    private static void nothingButWhatItMustHave() {
        Desk desk = new Desk();
        Check.reference(desk, REFERENCE);
        Check.read(desk, 0, Check.table("p", "a 1 . acg nN,gt . . . GT 2").replace(Check.FORMAT, Check.FORMAT + "##x\n##\n"));
        writes("no other LINES, large LETTERS", desk, 0, Check.table("p", "a 1 . ACG NN,GT . . . GT 2"));
    }

    private static void theLongestLine() {
        String ref = "ACGTACGTACGTACGTACGTACGT";
        String alts = "C" + ref.substring(1) + ",G" + ref.substring(1) + ",T" + ref.substring(1);
        String word = "!~cdefghijklmnopqrst";
        String record = "a 1 " + word + " " + ref + " " + alts + " 999999 PASS . GT 3|2 1/0 .|.";
        String samples = word + " " + word.toUpperCase() + " abcdefghijklmnopqrst";
        writes("the longest LINE", Check.desk(REFERENCE, samples, record), 0, Check.table(samples, record));
        String named = "abcdefghijklmnopqrst 1 . A C . . .";
        writes("the longest NAME", Check.desk(REFERENCE, "", named), 0, Check.table("", named));
    }

    private static void sixtyRecords() {
        String[] records = new String[60];
        for (int i = 0; i < 60; i++) {
            records[i] = "a " + (1 + i % 24) + " . " + "ACGT".charAt(i % 4) + " . " + i + " . .";
        }
        Check.dueLongRecords("60 RECORDS", () -> Check.desk(REFERENCE, "", records), 0, records);
    }

    private static void theTextIsReadAgain() {
        Desk desk = Check.desk(REFERENCE, "p q", "a 1 i ACG A,AC,ACGG 7 PASS . GT 3|. 0/2", "a 9 . A . . . . GT . 0");
        desk.write(0);
        desk.again();
        Check.due("read", desk.read(1), 2);
        Check.due("merge: one SAMPLE is there twice", desk.merge(), -1);
        writes("the same text", desk, 1, Check.table("p q", "a 1 i ACG A,AC,ACGG 7 PASS . GT 3|. 0/2", "a 9 . A . . . . GT . 0"));
    }
}
