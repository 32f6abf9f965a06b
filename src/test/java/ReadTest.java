/** Promises 4 (read), 5 (place), 8 (table), 9 (record), 10 (row) and 11 (call). */
public final class ReadTest {
    private static final String REFERENCE = ">a\nACGTACGTAC\nGTN\n>b\nTTTTTTTTTTTTTTTTTTTTTTTTTTTTTT\n";
    private static final String FINE = "a\t2\tx\tC\tT\t5\tPASS\t.\n";
    private static final int LINES = Check.FORMAT.length() + Check.HEAD.length() + 1;

    public static void main(String[] args) {
        ordinary();
        wrongArguments();
        edges();
        longNames();
        lineFaults();
        headFaults();
        columnFaults();
        callFaults();
        sixtyRecords();
        whatChanges();
        Check.end("ReadTest");
    }

    private static void ordinary() {
        Desk desk = Check.desk(REFERENCE, "p qq rrr",
                "a 2 id.7 c gt,N,ca 999999 PASS . GT 0|1 3/. .", "b 30 . T . 0 . . GT ./. 0 .|0");
        int[][] want = {{0, 2, 3, 999999, 1, 4}, {1, 30, 0, 0, 0, 0}};
        for (int i = 0; i < 2; i++) {
            for (int what = 0; what < 6; what++) {
                Check.due("record " + i + " " + what, desk.record(0, i, what), want[i][what]);
            }
        }
        int[] table = {2, 3, 1, 2, 3};
        for (int what = 0; what < 5; what++) {
            Check.due("table 0 " + what, desk.table(0, what), table[what]);
        }
        String[] rows = {"C", "GT", "N", "CA"};
        for (int row = 0; row < 4; row++) {
            Check.due("size of row " + row, desk.row(0, 0, row, -1), rows[row].length());
            for (int k = 0; k < rows[row].length(); k++) {
                Check.due("row " + row, desk.row(0, 0, row, k), rows[row].charAt(k));
            }
            for (int k : new int[] {rows[row].length(), 24, -2, Integer.MIN_VALUE, Integer.MAX_VALUE}) {
                Check.due("row " + row + " " + k, desk.row(0, 0, row, k), -1);
            }
        }
        int[][][] calls = {{{0, 1, 2, 1}, {3, -1, 2, 0}, {-1, -1, 1, 0}}, {{-1, -1, 2, 0}, {0, -1, 1, 0}, {-1, 0, 2, 1}}};
        for (int i = 0; i < 2; i++) {
            for (int sample = 0; sample < 3; sample++) {
                for (int what = 0; what < 4; what++) {
                    Check.due("call " + i + " " + sample + " " + what, desk.call(0, i, sample, what), calls[i][sample][what]);
                }
            }
        }
    }

    private static void wrongArguments() {
        Desk desk = Check.desk(REFERENCE, "p", "a 2 . C T . . . GT 1", "a 3 . G . . . . GT 0");
        for (int bad : new int[] {-1, 2, 3, 60, Integer.MAX_VALUE, Integer.MIN_VALUE}) {
            Check.dueIndex("read", () -> desk.read(bad));
            Check.dueIndex("table", () -> desk.table(bad, 0));
            Check.dueIndex("record", () -> desk.record(bad, 0, 0));
            Check.dueIndex("record", () -> desk.record(0, bad, 0));
            Check.dueIndex("record", () -> desk.record(1, bad, 0));
            Check.dueIndex("row", () -> desk.row(bad, 0, 0, 0));
            Check.dueIndex("row", () -> desk.row(0, bad, 0, 0));
            Check.dueIndex("row", () -> desk.row(0, 0, bad, 0));
            Check.dueIndex("call", () -> desk.call(bad, 0, 0, 0));
            Check.dueIndex("call", () -> desk.call(0, bad, 0, 0));
            Check.dueIndex("call", () -> desk.call(0, 0, bad, 0));
        }
        for (int what : new int[] {-1, 6, Integer.MAX_VALUE, Integer.MIN_VALUE}) {
            Check.dueIndex("table", () -> desk.table(0, what));
            Check.dueIndex("record", () -> desk.record(0, 0, what));
            Check.dueIndex("call", () -> desk.call(0, 0, 0, what));
        }
        Check.dueIndex("table", () -> desk.table(0, 5));
        Check.dueIndex("call", () -> desk.call(0, 0, 0, 4));
        Check.dueIndex("call", () -> desk.call(0, 0, 1, 0));
        Check.dueIndex("row", () -> desk.row(0, 1, 1, -1));
        Check.feed(desk, Check.table(""));
        Check.dueIndex("read", () -> desk.read(2));
        Check.due("the tape stays", desk.read(1), 0);
    }

    private static void edges() {
        fine(Check.FORMAT + Check.HEAD + "\n", 0);
        fine(Check.FORMAT + "##\n##any\u0001\u00ff\tthing\n" + Check.FORMAT + Check.HEAD + "\n" + FINE, 1);
        fine(Check.table("!~ abcdefghijklmnopqrst AB"), 0);
        fine(Check.table("", "a 1 abcdefghijklmnopqrst A C 0 PASS ."), 1);
        fine(Check.table("", "a 13 .. N A . . ."), 1);
        fine(Check.table("", "a 1 . ACGTACGTACGTN A . . ."), 1);
        fine(Check.table("", "b 7 . TTTTTTTTTTTTTTTTTTTTTTTT TTTTTTTTTTTTTTTTTTTTTTTA . . ."), 1);
        fine(Check.table("", "a 1 #! A c . . ."), 1);
    }

    private static void longNames() {
        StringBuilder reference = new StringBuilder();
        for (int s = 0; s < 8; s++) {
            reference.append(">abcdefghijklmnopqrs").append(s).append("\nACGT\n");
        }
        Desk desk = Check.desk(reference.toString(), "abcdefghijklmnopqrs0 abcdefghijklmnopqrs1 abcdefghijklmnopqrs2",
                "abcdefghijklmnopqrs7 4 . T C . . . GT 1 1 1");
        Check.due("the last sequence", desk.record(0, 0, 0), 7);
        Check.due("the last sample's name", desk.table(0, 4), 20);
        Check.due("a part of a name", Check.read(desk, 1, Check.table("", "abcdefghijklmnopqrs 4 . T C . . .")), -4);
        Check.due("names alike in 20 octets", Check.read(desk, 1, Check.table("p abcdefghijklmnopqrs2 abcdefghijklmnopqrs2")), -2);
    }

    private static void lineFaults() {
        fault("", 1, 0);
        fault("##fileformat=VCFv4.3", 1, 20);
        fault("x", 1, 1);
        fault("x\n", 2, 0);
        fault("\n", 2, 0);
        fault("##fileformat=VCFv4.3 \n", 2, 0);
        fault("##fileformat=VCFv4.2\n", 2, 0);
        fault(Check.FORMAT, 1, 21);
        fault(Check.FORMAT + "##x", 1, 24);
        fault(Check.FORMAT + "##x\n", 1, 25);
        fault(Check.FORMAT + Check.HEAD, 1, LINES - 1);
        fault(Check.FORMAT + Check.HEAD + "\n" + FINE.substring(0, 5), 1, LINES + 5);
        fault(Check.FORMAT + Check.HEAD + "\n" + "zzz\n", 3, LINES);
        fault(Check.FORMAT + Check.HEAD + "\n" + FINE + "\n", 3, LINES + FINE.length());
        fault(Check.FORMAT + Check.HEAD + "\n" + FINE.replace("\n", "\t.\n"), 3, LINES);
        fault(Check.FORMAT + Check.HEAD + "\n" + FINE.replace("\n", Check.repeat("\t", 40) + "\n"), 3, LINES);
        fault(Check.FORMAT + Check.HEAD + "\n##\n", 3, LINES);
        fault(Check.table("p", "a 2 . C T . . ."), 3, LINES + 9);
    }

    private static void headFaults() {
        fault(Check.FORMAT + "\n", 2, 21);
        fault(Check.FORMAT + "##\n#\n", 2, 24);
        fault(Check.FORMAT + Check.HEAD.replace('\t', ' ') + "\n", 2, 21);
        fault(Check.FORMAT + Check.HEAD.replace("INFO", "info") + "\n", 2, 21);
        fault(Check.FORMAT + Check.HEAD.replace("\tINFO", "") + "\n", 2, 21);
        fault(Check.FORMAT + Check.HEAD + "\t\n", 2, 21);
        fault(Check.FORMAT + Check.HEAD + "\tFORMAT\n", 2, 21);
        fault(Check.FORMAT + Check.HEAD + "\tFORMAT\t\n", 2, 21);
        fault(Check.FORMAT + Check.HEAD + "\tFORMA\tp\n", 2, 21);
        fault(Check.FORMAT + Check.HEAD + "\tp\tq\n", 2, 21);
        fault(Check.table("p q r s"), 2, 21);
        fault(Check.table("p q p"), 2, 21);
        fault(Check.table("p\u007f"), 2, 21);
        fault(Check.table("p q").replace("p\tq", "p q"), 2, 21);
        fault(Check.table("abcdefghijklmnopqrstu"), 2, 21);
    }

    private static void columnFaults() {
        column("c 2 . C T . . .", 4, 0);
        column(" 2 . C T . . .", 4, 0);
        column("ab 2 . C T . . .", 4, 0);
        column("A 2 . C T . . .", 4, 0);
        for (String place : new String[] {"0", "14", "02", "", "-1", "2x", "+2", "99999999999999999999", "4294967298"}) {
            column("a " + place + " . C T . . .", 4, 1);
        }
        for (String id : new String[] {"", "abcdefghijklmnopqrstu", "x\u0007", "\u0080"}) {
            column("a 2 " + id + " C T . . .", 4, 2);
        }
        for (String ref : new String[] {"", ".", "X", "CX", "CGTACGTACGTACGTACGTACGTAC"}) {
            column("a 2 . " + ref + " T . . .", 4, 3);
        }
        for (String ref : new String[] {"G", "CT", "CGTACGTACGTNN", "CGTACGTACGTNA", "N"}) {
            column("a 2 . " + ref + " T . . .", 5, 3);
        }
        String long25 = Check.repeat("A", 25);
        for (String alt : new String[] {"", "C", "c", "T,T", "T,t", "A,T,A", "T,", ",T", "A,,T", "A,G,T,CC", ".,T", "..", "X", long25}) {
            column("a 2 . C " + alt + " . . .", 4, 4);
        }
        for (String quality : new String[] {"", "1000000", "01", "-1", "1.5", "00", "x", "99999999999"}) {
            column("a 2 . C T " + quality + " . .", 4, 5);
        }
        for (String filter : new String[] {"", "pass", "PASS.", "PAS", "x"}) {
            column("a 2 . C T . " + filter + " .", 4, 6);
        }
        for (String info : new String[] {"", "x", ".."}) {
            column("a 2 . C T . . " + info, 4, 7);
        }
        column("a 2 . G C 01 x x", 5, 3);
        column("a 2 . C C 01 x x", 4, 4);
    }

    private static void callFaults() {
        int before = LINES + "\tFORMAT\tp\tq".length();
        for (String format : new String[] {"", "gt", "GT:DP", "."}) {
            String line = "a 2 . C T,G . . . " + format + " 0 0";
            fault(Check.table("p q", line), 4, before + "a 2 . C T,G . . . ".length());
        }
        for (String calls : new String[] {"", "3", "00", "1/", "/1", "1/2/0", "1-2", "x", "..", "./", "|", "-1", "1|3", "10"}) {
            String line = "a 2 . C T,G . . . GT ";
            fault(Check.table("p q", line + calls + " x"), 4, before + line.length());
            fault(Check.table("p q", line + "1|. " + calls), 4, before + line.length() + 4);
        }
        fault(Check.table("p q", "a 2 . C . . . GT 0 1", "x"), 3, before);
        fault(Check.table("p q", "a 2 . C . . . . GT 0 1"), 4, before + "a 2 . C . . . . GT 0 ".length());
    }

    private static void sixtyRecords() {
        String sixty = Check.FORMAT + Check.HEAD + "\n" + Check.repeat(FINE, 60);
        fine(sixty, 60);
        fault(sixty + FINE, 6, sixty.length());
        fault(sixty + "x\n", 6, sixty.length());
        fault(sixty + "\n", 6, sixty.length());
        fault(sixty + "x", 1, sixty.length() + 1);
        fault(sixty.substring(0, LINES) + "x\n" + sixty.substring(LINES), 3, LINES);
    }

    private static void whatChanges() {
        Desk desk = Check.desk(REFERENCE, "p q", "a 2 i C T 3 PASS . GT 1 0|1", "a 3 . G . . . . GT . 0");
        desk.apply(0, 0, 0, 0);
        Check.due("a fault", Check.read(desk, 0, Check.table("z", "a 5 j A T . . . GT 1", "b x")), -3);
        Check.dueRecords("the table stays", desk, 0, "a 2 i C T 3 PASS . GT 1 0|1", "a 3 . G . . . . GT . 0");
        Check.due("the samples stay", desk.table(0, 1), 2);
        Check.due("read", Check.read(desk, 1, Check.table("z", "a 5 j A T . . . GT 1")), 1);
        Check.due("the other table stays", desk.table(0, 0), 2);
        Check.due("read", Check.read(desk, 0, Check.table("")), 0);
        Check.due("no samples", desk.table(0, 1), 0);
        Check.due("no name", desk.table(0, 2), -1);
        Check.due("what was put on stays", desk.carried(2), 2);
        Desk empty = new Desk();
        Check.due("without sequences", Check.read(empty, 0, Check.table("", "a 1 . A . . . .")), -4);
        Check.due("place", empty.place(), LINES);
        Check.due("without sequences and records", Check.read(empty, 0, Check.table("p")), 0);
    }

    private static void fine(String text, int count) {
        Desk desk = new Desk();
        Check.reference(desk, REFERENCE);
        Check.due("read of " + text, Check.read(desk, 1, text), count);
        Check.due("place of " + text, desk.place(), -1);
        Check.due("records of " + text, desk.table(1, 0), count);
        Check.due("the other table", desk.table(0, 0), 0);
    }

    private static void fault(String text, int number, int place) {
        Desk desk = new Desk();
        Check.reference(desk, REFERENCE);
        Check.due("read of " + text, Check.read(desk, 0, text), -number);
        Check.due("place of " + text, desk.place(), place);
        Check.due("records after " + text, desk.table(0, 0), 0);
        Check.due("samples after " + text, desk.table(0, 1), 0);
    }

    /** A fault in a column of a record behind one that is fine. */
    private static void column(String record, int number, int column) {
        String[] columns = record.split(" ", -1);
        int place = LINES + FINE.length();
        for (int c = 0; c < column; c++) {
            place += columns[c].length() + 1;
        }
        fault(Check.table("", FINE.trim(), record), number, place);
    }
}
