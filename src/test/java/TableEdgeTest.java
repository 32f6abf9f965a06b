import java.util.Arrays;

/** The edges of TABLES: promises 4 (read), 5 (place), 8 (table), 9 (record), 10 (row) and 11 (call). */
public final class TableEdgeTest {
    /** The letters of a go on with those of b, so that a REF beyond a would be there if both were one. */
    private static final String REFERENCE = ">a\nACGTACGTAC\nGTN\n>b\nAAAAAAAAAAAAAAAAAAAAAAAAAAAAAA\n";
    private static final int LINES = Check.FORMAT.length() + Check.HEAD.length() + 1;
    private static final String WORD20 = "abcdefghijklmnopqrst";
    private static final String AS = Check.repeat("A", 24);

    public static void main(String[] args) {
        samples();
        moreThanThreeSamples();
        sizesOfSampleNames();
        everyOctetOfASampleName();
        sampleNamesAlike();
        theFirstLine();
        linesBeforeTheHead();
        theHead();
        linesThatDoNotEnd();
        noLineWhereOneHasToBe();
        columnsOfALine();
        sixtyRecords();
        theNextRecord();
        namesOfSequences();
        places();
        sizesOfIds();
        everyOctetOfAnId();
        sizesOfRows();
        everyOctetOfARow();
        howManyAlts();
        altsAlike();
        qualities();
        numbersThatAreNone();
        passed();
        infoAndFormat();
        callsAndRows();
        oneCallOrTwo();
        refAtTheEnd();
        refThatIsNotThere();
        lineByLine();
        columnByColumn();
        withoutReference();
        aTableReplacesTheOneBefore();
        Check.end("TableEdgeTest");
    }

    private static Desk fine(String text, int count) {
        Desk desk = new Desk();
        Check.reference(desk, REFERENCE);
        Check.due("read of " + text, Check.read(desk, 1, text), count);
        Check.due("no fault in " + text, desk.place(), -1);
        return desk;
    }

    private static void fault(String text, int number, int place) {
        Desk desk = new Desk();
        Check.reference(desk, REFERENCE);
        Check.due("read of " + text, Check.read(desk, 1, text), -number);
        Check.due("the place in " + text, desk.place(), place);
        Check.due("no record after " + text, desk.table(1, 0), 0);
        Check.due("no sample after " + text, desk.table(1, 1), 0);
    }

    private static Desk record(String record) {
        return fine(Check.table("", record), 1);
    }

    /** A fault at the first octet of a column. */
    private static void column(String record, int number, int column) {
        fault(Check.table("", record), number, LINES + startOf(record, column));
    }

    private static int startOf(String record, int column) {
        String[] columns = record.split(" ", -1);
        return String.join(" ", Arrays.copyOf(columns, column)).length() + Math.min(column, 1);
    }

    private static void samples() {
        String[] names = {"", "p", "p qq", "p qq rrr"};
        for (int count = 0; count <= 3; count++) {
            Desk desk = fine(Check.table(names[count], "a 1 . A . . . ." + (count > 0 ? " GT" : "") + Check.repeat(" 0", count)), 1);
            Check.due("samples", desk.table(1, 1), count);
            for (int sample = 0; sample < 3; sample++) {
                Check.due("octets of name " + sample, desk.table(1, 2 + sample), sample < count ? sample + 1 : -1);
            }
            int behind = count;
            Check.dueIndex("a sample behind the last", () -> desk.call(1, 0, behind, 0));
        }
    }

    private static void moreThanThreeSamples() {
        fault(Check.table("p q r s"), 2, 21);
        fault(Check.table("p q r s t u v w"), 2, 21);
    }

    private static void sizesOfSampleNames() {
        for (int size = 1; size <= 20; size++) {
            Check.due("octets of a name", fine(Check.table(WORD20.substring(0, size)), 0).table(1, 2), size);
        }
        fault(Check.table(WORD20 + "u"), 2, 21);
        fault(Check.table("p " + WORD20 + "u"), 2, 21);
        fault(Check.FORMAT + Check.HEAD + "\tFORMAT\t\n", 2, 21);
        fault(Check.FORMAT + Check.HEAD + "\tFORMAT\tp\t\n", 2, 21);
        fault(Check.FORMAT + Check.HEAD + "\tFORMAT\t\tp\n", 2, 21);
    }

    private static void everyOctetOfASampleName() {
        for (char octet = 0; octet < 256; octet++) {
            String text = Check.FORMAT + Check.HEAD + "\tFORMAT\tp" + octet + "q\n";
            if (octet >= 33 && octet <= 126) {
                fine(text, 0);
            } else if (octet == '\t') {
                Check.due("two samples", fine(text, 0).table(1, 1), 2);
            } else if (octet == '\n') {
                fault(text, 3, text.length() - 2);
            } else {
                fault(text, 2, 21);
            }
        }
    }

    private static void sampleNamesAlike() {
        fault(Check.table("p p"), 2, 21);
        fault(Check.table("p q p"), 2, 21);
        fault(Check.table("p q q"), 2, 21);
        fault(Check.table(WORD20 + " " + WORD20), 2, 21);
        fine(Check.table("p P pp"), 0);
        fine(Check.table("pp p P"), 0);
    }

    private static void theFirstLine() {
        for (String line : new String[] {"", "#", "##", "##fileformat=VCFv4.", "##fileformat=VCFv4.3 ", "##fileformat=VCFv4.30",
            "##fileformat=VCFv4.2", "##FILEFORMAT=VCFv4.3", " ##fileformat=VCFv4.3", "##fileformat=VCFv4.3\r", Check.HEAD}) {
            fault(line + "\n" + Check.HEAD + "\n", 2, 0);
        }
    }

    private static void linesBeforeTheHead() {
        fine(Check.FORMAT + "##\n" + Check.HEAD + "\n", 0);
        fine(Check.FORMAT + Check.FORMAT + "##" + Check.HEAD + "\n" + Check.HEAD + "\n", 0);
        fine(Check.FORMAT + Check.repeat("##\n", 300) + Check.HEAD + "\n", 0);
        fault(Check.FORMAT + "##\n# #\n" + Check.HEAD + "\n", 2, 24);
        fault(Check.FORMAT + "##\n\n" + Check.HEAD + "\n", 2, 24);
        fault(Check.FORMAT + Check.HEAD + "\n##\n", 3, LINES);
    }

    private static void theHead() {
        String[] heads = {"", "#", Check.HEAD + "\t", Check.HEAD + "\tFORMAT", Check.HEAD + "\tp", Check.HEAD + "\tformat\tp",
            Check.HEAD + " ", Check.HEAD + "\r", Check.HEAD.substring(1), Check.HEAD.replace("\tINFO", ""),
            Check.HEAD.replace("\t", "\t\t"), Check.HEAD.replace('\t', ' '), Check.HEAD.replace("POS", "pos"),
            Check.HEAD.replace("#", " #"), Check.HEAD + "\tFORMAT p", Check.HEAD + "\t\tFORMAT\tp"};
        for (String head : heads) {
            fault(Check.FORMAT + head + "\n", 2, 21);
        }
    }

    private static void linesThatDoNotEnd() {
        fault("#", 1, 1);
        fault("x", 1, 1);
        fault(Check.FORMAT.trim(), 1, 20);
        fault(Check.FORMAT + "##", 1, 23);
        fault(Check.FORMAT + "x", 1, 22);
        fault(Check.FORMAT + Check.HEAD, 1, LINES - 1);
        fault(Check.table("", "a 1 . A . . . .").trim(), 1, LINES + 15);
        fault(Check.table("") + "x", 1, LINES + 1);
        fault(Check.table("", "a 1 . A . . . .") + "\t", 1, LINES + 17);
    }

    private static void noLineWhereOneHasToBe() {
        fault("", 1, 0);
        fault(Check.FORMAT, 1, 21);
        fault(Check.FORMAT + "##\n", 1, 24);
        fine(Check.FORMAT + Check.HEAD + "\n", 0);
    }

    private static void columnsOfALine() {
        fault(Check.table("", ""), 3, LINES);
        fault(Check.table("", "a 1 . A . . ."), 3, LINES);
        fault(Check.table("", "a 1 . A . . . . "), 3, LINES);
        fault(Check.table("", "a 1 . A . . . . GT 0"), 3, LINES);
        fault(Check.table("", "x x x x x x x"), 3, LINES);
        fault(Check.table("", "a 1 . A . . . ." + Check.repeat(" ", 500)), 3, LINES);
        fault(Check.table("", "a 1 . A . . . .", "a"), 3, LINES + 16);
        int lines = Check.table("p q").length();
        fault(Check.table("p q", "a 1 . A . . . . GT 0"), 3, lines);
        fault(Check.table("p q", "a 1 . A . . . . GT 0 0 0"), 3, lines);
        fault(Check.table("p q", "a 1 . A . . . ."), 3, lines);
        fine(Check.table("p q", "a 1 . A . . . . GT 0 0"), 1);
        column("       ", 4, 0);
    }

    private static String sixty() {
        String[] records = new String[60];
        for (int i = 0; i < 60; i++) {
            records[i] = "b " + (1 + i % 30) + " . A . " + i + " . .";
        }
        return Check.table("", records);
    }

    private static void sixtyRecords() {
        Desk desk = fine(sixty(), 60);
        Check.due("records", desk.table(1, 0), 60);
        Check.due("the first one", desk.record(1, 0, 3), 0);
        Check.due("the last one", desk.record(1, 59, 3), 59);
        Check.dueIndex("the one behind", () -> desk.record(1, 60, 3));
    }

    private static void theNextRecord() {
        int size = sixty().length();
        fault(sixty() + "b\t1\t.\tA\t.\t.\t.\t.\n", 6, size);
        fault(sixty() + "b\n", 6, size);
        fault(sixty() + "\n", 6, size);
        fault(sixty() + "z\tz\tz\tz\tz\tz\tz\tz\n", 6, size);
        fault(sixty() + "\n\n\n", 6, size);
        fault(sixty() + "b", 1, size + 1);
    }

    private static void namesOfSequences() {
        for (String name : new String[] {"", ".", "c", "A", "aa", "a.", ">a", "0"}) {
            column(name + " 1 . A . . . .", 4, 0);
        }
        Check.due("the first sequence", record("a 1 . A . . . .").record(1, 0, 0), 0);
        Check.due("the last sequence", record("b 1 . A . . . .").record(1, 0, 0), 1);
    }

    private static void places() {
        for (int place = 1; place <= 13; place++) {
            Desk desk = record("a " + place + " . " + "ACGTACGTACGTN".charAt(place - 1) + " . . . .");
            Check.due("place", desk.record(1, 0, 1), place);
        }
        for (String place : new String[] {"0", "14", "30", "-1", "", ".", "1.", "+1", "1x", "x1", "0x1", "99999999"}) {
            column("a " + place + " . A . . . .", 4, 1);
        }
        record("b 30 . A . . . .");
        column("b 31 . A . . . .", 4, 1);
    }

    private static void sizesOfIds() {
        Check.due("octets of no ID", record("a 1 . A . . . .").record(1, 0, 5), 0);
        for (int size = 1; size <= 20; size++) {
            Check.due("octets of an ID", record("a 1 " + WORD20.substring(0, size) + " A . . . .").record(1, 0, 5), size);
        }
        column("a 1  A . . . .", 4, 2);
        column("a 1 " + WORD20 + "u A . . . .", 4, 2);
        column("a 1 " + Check.repeat(".", 21) + " A . . . .", 4, 2);
        Check.due("octets of ..", record("a 1 .. A . . . .").record(1, 0, 5), 2);
        Check.due("octets of 20 points", record("a 1 " + Check.repeat(".", 20) + " A . . . .").record(1, 0, 5), 20);
    }

    private static void everyOctetOfAnId() {
        for (char octet = 0; octet < 256; octet++) {
            String text = Check.FORMAT + Check.HEAD + "\na\t1\ti" + octet + "\tA\t.\t.\t.\t.\n";
            if (octet >= 33 && octet <= 126) {
                Check.due("octets of the ID", fine(text, 1).record(1, 0, 5), 2);
            } else if (octet == '\t' || octet == '\n') {
                fault(text, 3, LINES);
            } else {
                fault(text, 4, LINES + 4);
            }
        }
    }

    private static void sizesOfRows() {
        for (int size = 1; size <= 24; size++) {
            String row = AS.substring(0, size);
            Check.due("letters of REF", record("b 1 . " + row + " C . . .").row(1, 0, 0, -1), size);
            Check.due("letters of an ALT", record("b 1 . A C" + row.substring(1) + " . . .").row(1, 0, 1, -1), size);
        }
        column("b 1 . A" + AS + " C . . .", 4, 3);
        column("b 1 .  C . . .", 4, 3);
        column("b 1 . . C . . .", 4, 3);
        column("b 1 . A C" + AS + " . . .", 4, 4);
        column("b 1 . A  . . .", 4, 4);
        column("b 1 . A C,T,C" + AS + " . . .", 4, 4);
        // Too long for the sequence, too: 4 comes before 5.
        column("a 13 . N" + AS + " C . . .", 4, 3);
        fine(Check.table("", "b 7 . " + AS + " C" + AS.substring(1) + ",G" + AS.substring(1) + ",T" + AS.substring(1) + " . . ."), 1);
    }

    private static void everyOctetOfARow() {
        for (char octet = 0; octet < 256; octet++) {
            if (octet == '\t' || octet == '\n') {
                continue;
            }
            String alt = Check.FORMAT + Check.HEAD + "\na\t1\t.\tA\tCC" + octet + "C\t.\t.\t.\n";
            if ("ACGTNacgtn".indexOf(octet) >= 0) {
                Check.due("a letter of an ALT", fine(alt, 1).row(1, 0, 1, 2), Character.toUpperCase(octet));
            } else if (octet == ',') {
                Check.due("two ALTS", fine(alt, 1).record(1, 0, 2), 2);
            } else {
                fault(alt, 4, LINES + 8);
            }
            String ref = Check.FORMAT + Check.HEAD + "\na\t1\t.\tA" + octet + "\t.\t.\t.\t.\n";
            if (octet == 'C' || octet == 'c') {
                Check.due("a letter of REF", fine(ref, 1).row(1, 0, 0, 1), 'C');
            } else {
                fault(ref, "AGTNagtn".indexOf(octet) >= 0 ? 5 : 4, LINES + 6);
            }
        }
    }

    private static void howManyAlts() {
        String[] alts = {".", "C", "C,G", "C,G,T"};
        for (int count = 0; count <= 3; count++) {
            Desk desk = record("a 1 . A " + alts[count] + " . . .");
            Check.due("alts", desk.record(1, 0, 2), count);
            int last = count;
            Check.due("letters of the last row", desk.row(1, 0, last, -1), 1);
            Check.dueIndex("the row behind", () -> desk.row(1, 0, last + 1, -1));
        }
        for (String wrong : new String[] {"C,G,T,N", "C,G,T,N,CC", "C,", ",C", ",", "C,,G", ".,C", "C,.", "..", "C,G,T,"}) {
            column("a 1 . A " + wrong + " . . .", 4, 4);
        }
    }

    private static void altsAlike() {
        for (String alts : new String[] {"A", "a", "C,A", "C,C", "C,c", "C,G,C", "C,G,G", "G,C,A", "CC,cC", "N,n"}) {
            column("a 1 . A " + alts + " . . .", 4, 4);
        }
        column("a 1 . ACGT acgt . . .", 4, 4);
        record("a 1 . A AA,AC,AAA . . .");
        record("a 1 . AC A,C,CA . . .");
    }

    private static void qualities() {
        for (int quality : new int[] {0, 1, 9, 10, 99, 100, 99999, 100000, 999998, 999999}) {
            Check.due("quality", record("a 1 . A . " + quality + " . .").record(1, 0, 3), quality);
        }
        Check.due("no quality", record("a 1 . A . . . .").record(1, 0, 3), -1);
        for (String quality : new String[] {"1000000", "9999990", "999999.", "-1", "-0", "+1", "", "..", "1.5", "1e3", "x", " "}) {
            column("a 1 . A . " + quality.replace(' ', '\u00a0') + " . .", 4, 5);
        }
    }

    /** Those that would be others after a wrap-around, and those with a 0 in front. */
    private static void numbersThatAreNone() {
        String[] numbers = {"4294967297", "4294967296", "18446744073709551617", "18446744073709551616", "2147483648",
            "9223372036854775808", "100000000000000000000000000000000000000001", "00", "01", "001", "0000000000000000000001"};
        for (String number : numbers) {
            column("a " + number + " . A C . . .", 4, 1);
            column("a 1 . A C " + number + " . .", 4, 5);
            calls("C", number, false);
            calls("C", "0/" + number, false);
            calls("C", number + "|0", false);
        }
    }

    private static void passed() {
        Check.due("PASS", record("a 1 . A . . PASS .").record(1, 0, 4), 1);
        Check.due("a point", record("a 1 . A . . . .").record(1, 0, 4), 0);
        for (String filter : new String[] {"", "pass", "PAS", "PASSS", "..", "PASS.", "0", "q10"}) {
            column("a 1 . A . . " + filter + " .", 4, 6);
        }
    }

    private static void infoAndFormat() {
        for (String info : new String[] {"", "..", "x", "DP=1"}) {
            column("a 1 . A . . . " + info, 4, 7);
        }
        int lines = Check.table("p").length();
        for (String format : new String[] {"", ".", "gt", "G", "GTT", "GT:DP"}) {
            fault(Check.table("p", "a 1 . A . . . . " + format + " 0"), 4, lines + 16);
        }
    }

    /** Whether a column of calls is as told, for the second sample of two. */
    private static void calls(String alts, String calls, boolean told) {
        String before = "a 1 . A " + alts + " . . . GT .|0 ";
        if (told) {
            fine(Check.table("p q", before + calls), 1);
        } else {
            fault(Check.table("p q", before + calls), 4, Check.table("p q").length() + before.length());
        }
    }

    private static void callsAndRows() {
        String[] alts = {".", "C", "C,G", "C,G,T"};
        for (int count = 0; count <= 3; count++) {
            for (int call = 0; call <= 9; call++) {
                calls(alts[count], "" + call, call <= count);
                calls(alts[count], call + "/0", call <= count);
                calls(alts[count], "0|" + call, call <= count);
            }
            calls(alts[count], ".", true);
            calls(alts[count], "10", false);
            calls(alts[count], "-1", false);
        }
    }

    private static void oneCallOrTwo() {
        for (String wrong : new String[] {"", "/", "|", "0/", "/0", "0|", "|0", "0/0/0", "0|0|0", "0//0", "0/|0", "0-0", "0\\0",
            "..", "./..", "0 ", "x"}) {
            calls("C", wrong.replace(' ', '\u00a0'), false);
        }
        fault(Check.table("p q", "a 1 . A C . . . GT 0 /0"), 4, Check.table("p q").length() + 21);
        fault(Check.table("p q", "a 1 . A C . . . GT 0/ 0"), 4, Check.table("p q").length() + 19);
        int[][] want = {{1, -1, 1, 0}, {-1, -1, 1, 0}, {0, 1, 2, 0}, {1, 0, 2, 1}, {-1, 1, 2, 0}, {1, -1, 2, 1}, {-1, -1, 2, 0}};
        String[] told = {"1", ".", "0/1", "1|0", "./1", "1|.", "./."};
        for (int n = 0; n < told.length; n++) {
            Desk desk = fine(Check.table("p", "a 1 . A C . . . GT " + told[n]), 1);
            for (int what = 0; what < 4; what++) {
                Check.due("call " + what + " of " + told[n], desk.call(1, 0, 0, what), want[n][what]);
            }
        }
    }

    private static void refAtTheEnd() {
        record("a 13 . N . . . .");
        record("a 12 . TN . . . .");
        record("a 1 . ACGTACGTACGTN . . . .");
        record("b 7 . " + AS + " . . . .");
        column("a 13 . NA . . . .", 5, 3);
        column("a 12 . TNA . . . .", 5, 3);
        column("b 30 . AA . . . .", 5, 3);
        column("b 8 . " + AS + " . . . .", 5, 3);
    }

    private static void refThatIsNotThere() {
        column("a 1 . C . . . .", 5, 3);
        column("a 1 . ACGA . . . .", 5, 3);
        column("a 1 . N . . . .", 5, 3);
        column("a 13 . A . . . .", 5, 3);
        column("a 2 . A . . . .", 5, 3);
        record("a 13 . n . . . .");
    }

    private static void lineByLine() {
        String fine = "a 1 . A . . . .";
        fault(Check.table("", "a 1 . A . . . x", "x"), 4, LINES + 14);
        fault(Check.table("", "x", "a 1 . A . . . x"), 3, LINES);
        fault(Check.table("", fine, "a 1 . C . . . .", "b 0 . A . . . ."), 5, LINES + 16 + 6);
        fault(Check.table("", fine, "b 0 . A . . . .", "a 1 . C . . . ."), 4, LINES + 16 + 2);
        fault("##\n" + Check.HEAD + "x\n", 2, 0);
        fault(Check.table("", "x") + "x", 3, LINES);
        fault("x\nx", 2, 0);
        fault(Check.FORMAT + "x\nx", 2, 21);
    }

    /** All columns from one on are wrong: the first of them counts. */
    private static void columnByColumn() {
        String[] fine = {"a", "1", ".", "A", "C", ".", ".", ".", "GT", "0"};
        String[] wrong = {"x", "x", "\u0001", "x", "x", "x", "x", "x", "x", "x"};
        for (int c = 0; c < fine.length; c++) {
            String[] columns = fine.clone();
            System.arraycopy(wrong, c, columns, c, fine.length - c);
            String record = String.join(" ", columns);
            fault(Check.table("p", record), 4, Check.table("p").length() + startOf(record, c));
        }
        column("a 1 . C C x x x", 5, 3);
        column("a 1 . A A x x x", 4, 4);
    }

    private static void withoutReference() {
        Desk desk = new Desk();
        Check.due("a table without records", Check.read(desk, 0, Check.table("p")), 0);
        Check.due("its sample", desk.table(0, 1), 1);
        Check.due("a record", Check.read(desk, 0, Check.table("", "a 1 . A . . . .")), -4);
        Check.due("place", desk.place(), LINES);
        Check.due("a name without octets", Check.read(desk, 0, Check.table("", " 1 . A . . . .")), -4);
    }

    private static void aTableReplacesTheOneBefore() {
        Desk desk = Check.desk(REFERENCE, "p qq", "a 1 xyz ACG C,G,T 5 PASS . GT 1|2 3/.", "a 2 . C . . . . GT 0 0");
        Check.due("read", Check.read(desk, 0, Check.table("r", "b 3 . A C . . . GT 1")), 1);
        Check.due("samples", desk.table(0, 1), 1);
        Check.due("no second name", desk.table(0, 3), -1);
        int[] want = {1, 3, 1, -1, 0, 0};
        for (int what = 0; what < 6; what++) {
            Check.due("record " + what, desk.record(0, 0, what), want[what]);
        }
        Check.due("no second letter", desk.row(0, 0, 0, 1), -1);
        Check.dueIndex("no second ALT", () -> desk.row(0, 0, 2, -1));
        Check.due("no second call", desk.call(0, 0, 0, 1), -1);
        Check.due("not phased", desk.call(0, 0, 0, 3), 0);
        Check.dueIndex("no second sample", () -> desk.call(0, 0, 1, 0));
        Check.dueIndex("no second record", () -> desk.record(0, 1, 0));
        Check.due("the other table has nothing", desk.table(1, 0), 0);
    }
}
