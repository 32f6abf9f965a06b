/** The edges of what changes TABLES: promises 12 (normalise), 13 (split), 14 (join), 15 (sort) and 16 (merge). */
public final class ChangeEdgeTest {
    private static final String AS = Check.repeat("A", 24);
    private static final String REFERENCE = ">a\nACGTACGT\n>b\n" + Check.repeat("A", 60) + "\n>c\nCGGGGT\n";

    public static void main(String[] args) {
        normalWithoutAlts();
        normalAtPlace1();
        normalUpToPlace1();
        normalWithRowsOfOneLetter();
        normalWithRowsOf24();
        normalLeavesOneLetter();
        normalGoesToTheLeftFirst();
        normalNeedsAllRows();
        normalCountsOthers();
        splitOfNoneAndOne();
        splitUpTo60();
        splitBeyond60();
        splitKeepsTheRest();
        joinOfThreeAlts();
        joinOfFourAlts();
        joinUpToRowsOf24();
        joinBeyondRowsOf24();
        joinOnlySideBySide();
        joinWithoutAlts();
        joinGoesOnBehindOneThatCannot();
        joinOfOneCallAndTwo();
        sortOfNothingAndOne();
        sortKeepsTheOrderOfThoseAlike();
        sortBySequenceFirst();
        mergeWithNothing();
        mergeUpTo60();
        mergeBeyond60();
        mergeUpTo3Samples();
        mergeBeyond3Samples();
        mergeOfOneNameTwice();
        mergeSortsBoth();
        mergePutsOnlyOneToEach();
        mergeOfRecordsThatAreNotAlike();
        mergeMakesOneCall();
        mergeDoesNotKnowNamesThatAreNoMore();
        tablesHaveRecordsOfTheirOwn();
        Check.end("ChangeEdgeTest");
    }

    private static String[] parts(String records) {
        return records.isEmpty() ? new String[0] : records.split(" ; ");
    }

    private static void normal(String what, String before, String after) {
        Desk desk = Check.desk(REFERENCE, "", before);
        Check.due(what, desk.normalise(0), before.equals(after) ? 0 : 1);
        Check.dueRecords(what, desk, 0, after);
        Check.due(what + ": it is normal then", desk.normalise(0), 0);
    }

    private static void normalWithoutAlts() {
        normal("a RECORD without ALTS", "b 5 . A . . . .", "b 5 . A . . . .");
        normal("a RECORD without ALTS", "b 5 . AAA . . . .", "b 5 . AAA . . . .");
        normal("a RECORD without ALTS", "a 1 . ACGTACGT . . . .", "a 1 . ACGTACGT . . . .");
    }

    private static void normalAtPlace1() {
        normal("nothing before PLACE 1", "b 1 . A AA . . .", "b 1 . A AA . . .");
        normal("nothing before PLACE 1", "b 1 . AA A . . .", "b 1 . AA A . . .");
        normal("two or more at PLACE 1", "b 1 . AA CA . . .", "b 1 . A C . . .");
        normal("two or more at PLACE 1", "b 1 . AAA AA . . .", "b 1 . AA A . . .");
        normal("beginnings at PLACE 1", "a 1 . AC AG . . .", "a 2 . C G . . .");
        normal("one row of one LETTER at PLACE 1", "a 1 . AC C . . .", "a 1 . AC C . . .");
    }

    private static void normalUpToPlace1() {
        normal("from the last PLACE to the first", "b 60 . A AA . . .", "b 1 . A AA . . .");
        normal("from PLACE 2 to PLACE 1", "b 2 . A AA . . .", "b 1 . A AA . . .");
        normal("from PLACE 2 to PLACE 1", "a 2 . C CC . . .", "a 1 . A AC . . .");
        normal("to PLACE 1, with the LETTER there", "c 5 . G GG . . .", "c 1 . C CG . . .");
    }

    private static void normalWithRowsOfOneLetter() {
        normal("ROWS of one LETTER each", "a 3 . G T . . .", "a 3 . G T . . .");
        normal("ROWS of one LETTER each", "a 3 . G T,A,N . . .", "a 3 . G T,A,N . . .");
        normal("one ROW of one LETTER", "a 3 . G AG . . .", "a 2 . C CA . . .");
        normal("one ROW of one LETTER", "a 3 . GT T . . .", "a 2 . CG C . . .");
    }

    private static void normalWithRowsOf24() {
        String c = "C" + AS.substring(1);
        normal("ROWS of 24 that end alike", "b 30 . " + AS + " " + c + " . . .", "b 30 . A C . . .");
        normal("ROWS of 24 that begin alike", "b 30 . " + AS + " " + AS.substring(1) + "C . . .", "b 53 . A C . . .");
        normal("an ALT of 24 that goes to the left", "b 30 . A " + c + " . . .", "b 7 . A " + AS.substring(1) + "C . . .");
        normal("an ALT of 24 up to PLACE 1", "b 30 . A " + AS + " . . .", "b 1 . A " + AS + " . . .");
        normal("a REF of 24 up to PLACE 1", "b 30 . " + AS + " A . . .", "b 1 . " + AS + " A . . .");
        normal("ROWS of 24 and 23", "b 30 . " + AS + " " + AS.substring(1) + " . . .", "b 1 . AA A . . .");
        normal("ROWS of 24 that neither end nor begin alike", "b 9 . " + AS + " C" + AS.substring(2) + "C . . .",
                "b 9 . " + AS + " C" + AS.substring(2) + "C . . .");
    }

    private static void normalLeavesOneLetter() {
        normal("the last common LETTER stays", "a 1 . AC A . . .", "a 1 . AC A . . .");
        normal("the last common LETTER stays", "a 1 . ACG ACGG . . .", "a 2 . C CG . . .");
        normal("up to one LETTER from the left", "a 1 . ACG ACT . . .", "a 3 . G T . . .");
        normal("up to one LETTER from the right", "a 2 . CGT GGT . . .", "a 2 . C G . . .");
    }

    /** GG at the beginning and at the end: the last one goes, and the RECORD goes to the left, before the first one would. */
    private static void normalGoesToTheLeftFirst() {
        normal("ends before beginnings", "c 2 . GGG GG . . .", "c 1 . CG C . . .");
        normal("ends before beginnings", "c 2 . GG GGGG . . .", "c 1 . C CGG . . .");
        normal("both", "a 1 . ACGT ATGT . . .", "a 2 . C T . . .");
    }

    private static void normalNeedsAllRows() {
        normal("one ALT ends otherwise", "a 2 . CGT GGT,CGA . . .", "a 2 . CGT GGT,CGA . . .");
        normal("one ALT begins otherwise", "a 2 . CGT CGA,GGA . . .", "a 2 . CGT CGA,GGA . . .");
        normal("all begin alike", "a 2 . CGT CGA,CA . . .", "a 3 . GT GA,A . . .");
        normal("the shortest ROW counts", "a 2 . CGT CGA,C . . .", "a 2 . CGT CGA,C . . .");
        normal("three ALTS go to the left", "b 9 . A AA,AAA,AAAA . . .", "b 1 . A AA,AAA,AAAA . . .");
    }

    private static void normalCountsOthers() {
        Desk desk = Check.desk(REFERENCE, "", "b 9 . A AA . . .", "b 1 . A AA . . .", "b 9 . A . . . .", "a 1 . AC AG . . .");
        Check.due("normalise", desk.normalise(0), 2);
        Check.due("normalise of a TABLE without RECORDS", desk.normalise(1), 0);
    }

    private static void changes(String what, int answer, Check.Maker maker, String after) {
        Check.dueLongRecords(what, maker, 0, parts(after));
        Check.due(what + ": RECORDS", maker.make().table(0, 0), answer);
    }

    private static void splits(String what, String samples, String before, String after) {
        int size = parts(after).length;
        changes("split: " + what, size, () -> {
            Desk desk = Check.desk(REFERENCE, samples, parts(before));
            Check.due("split: " + what, desk.split(0), size);
            return desk;
        }, after);
    }

    private static void splitOfNoneAndOne() {
        splits("nothing", "", "", "");
        splits("no ALT", "", "a 1 . A . . . .", "a 1 . A . . . .");
        splits("one ALT", "p", "a 1 i A C 7 PASS . GT 1|0", "a 1 i A C 7 PASS . GT 1|0");
        splits("two ALTS", "", "a 1 . A C,G . . .", "a 1 . A C . . . ; a 1 . A G . . .");
    }

    private static void splitUpTo60() {
        Desk desk = Check.desk(REFERENCE, "", records(20, "C,G,T"));
        Check.due("20 with three ALTS", desk.split(0), 60);
        Check.due("the last one's ALT", desk.row(0, 59, 1, 0), 'T');
        Check.due("60 with one ALT", desk.split(0), 60);
        desk = Check.desk(REFERENCE, "", records(30, "C,G"));
        Check.due("30 with two ALTS", desk.split(0), 60);
        desk = Check.desk(REFERENCE, "", records(60, "."));
        Check.due("60 without ALTS", desk.split(0), 60);
    }

    private static void splitBeyond60() {
        for (String last : new String[] {".", "C", "C,G", "C,G,T"}) {
            String[] all = records(21, "C,G,T");
            all[20] = "b 21 . A " + last + " . . .";
            changes("split beyond 60", 21, () -> {
                Desk desk = Check.desk(REFERENCE, "", all);
                Check.due("split beyond 60", desk.split(0), -1);
                return desk;
            }, String.join(" ; ", all));
        }
        String[] sixty = records(60, ".");
        sixty[0] = "b 1 . A C,G . . .";
        Desk desk = Check.desk(REFERENCE, "", sixty);
        Check.due("61, by the first one", desk.split(0), -1);
        Check.due("all stay", desk.table(0, 0), 60);
        Check.due("its ALTS", desk.record(0, 0, 2), 2);
    }

    private static void splitKeepsTheRest() {
        splits("CALLS", "p q r", "a 1 . A C,G,T . . . GT 3|0 ./2 1",
                "a 1 . A C . . . GT 0|0 ./0 1 ; a 1 . A G . . . GT 0|0 ./1 0 ; a 1 . A T . . . GT 1|0 ./0 0");
        splits("no CALLS", "p", "a 1 . A C,G . . . GT ./.", "a 1 . A C . . . GT ./. ; a 1 . A G . . . GT ./.");
        splits("places in order", "", "b 9 . A . . . . ; a 1 x ACG C,AAAA 5 PASS . ; b 1 . A . . . .",
                "b 9 . A . . . . ; a 1 x ACG C 5 PASS . ; a 1 x ACG AAAA 5 PASS . ; b 1 . A . . . .");
    }

    private static String[] records(int count, String alts) {
        String[] records = new String[count];
        for (int i = 0; i < count; i++) {
            records[i] = "b " + (i + 1) + " . A " + alts + " . . .";
        }
        return records;
    }

    private static void joins(String what, String samples, String before, String after) {
        int size = parts(after).length;
        changes("join: " + what, size, () -> {
            Desk desk = Check.desk(REFERENCE, samples, parts(before));
            Check.due("join: " + what, desk.join(0), size);
            return desk;
        }, after);
    }

    private static void joinOfThreeAlts() {
        joins("one and two", "", "a 1 . A C . . . ; a 1 . A G,T . . .", "a 1 . A C,G,T . . .");
        joins("two and one", "", "a 1 . A C,G . . . ; a 1 . A T . . .", "a 1 . A C,G,T . . .");
        joins("three and the same three", "", "a 1 . A C,G,T . . . ; a 1 . A T,G,C . . .", "a 1 . A C,G,T . . .");
        joins("three and one of them", "", "a 1 . A C,G,T . . . ; a 1 . A G . . .", "a 1 . A C,G,T . . .");
        joins("one, three times", "", "a 1 . A C . . . ; a 1 . A G . . . ; a 1 . A T . . .", "a 1 . A C,G,T . . .");
    }

    private static void joinOfFourAlts() {
        same("three and one", "a 1 . A C,G,T . . . ; a 1 . A N . . .");
        same("one and three", "a 1 . A N . . . ; a 1 . A C,G,T . . .");
        same("two and two", "a 1 . A C,G . . . ; a 1 . A T,N . . .");
        same("three and three with two of them", "a 1 . A C,G,T . . . ; a 1 . A T,C,N . . .");
        same("a longer REF alone does not come", "a 1 . A C,G,T . . . ; a 1 . AC N . . .");
        joins("three, and a fourth stays", "", "a 1 . A C . . . ; a 1 . A G . . . ; a 1 . A T . . . ; a 1 . A N . . .",
                "a 1 . A C,G,T . . . ; a 1 . A N . . .");
    }

    private static void same(String what, String records) {
        joins(what, "", records, records);
    }

    private static void joinUpToRowsOf24() {
        String c = "C" + AS.substring(1);
        joins("an ALT that becomes 24", "", "b 1 . A C . . . ; b 1 . " + AS + " A . . .", "b 1 . " + AS + " " + c + ",A . . .");
        joins("the second one's ALT", "", "b 1 . " + AS + " A . . . ; b 1 . A C . . .", "b 1 . " + AS + " A," + c + " . . .");
        joins("both have 24", "", "b 1 . " + AS + " A . . . ; b 1 . " + AS + " " + c + " . . .", "b 1 . " + AS + " A," + c + " . . .");
        joins("two and one less", "", "b 1 . A CC . . . ; b 1 . " + AS.substring(1) + " A . . .",
                "b 1 . " + AS.substring(1) + " CC" + AS.substring(2) + ",A . . .");
    }

    private static void joinBeyondRowsOf24() {
        same("an ALT that would have 25", "b 1 . A CC . . . ; b 1 . " + AS + " A . . .");
        same("the second one's ALT", "b 1 . " + AS + " A . . . ; b 1 . A CC . . .");
        same("an ALT of 24 and a REF of two", "b 1 . A C" + AS.substring(1) + " . . . ; b 1 . AA A . . .");
        same("one of two ALTS", "b 1 . A C,CC . . . ; b 1 . " + AS + " A . . .");
    }

    private static void joinOnlySideBySide() {
        same("another PLACE", "b 1 . A C . . . ; b 2 . A G . . .");
        same("another SEQUENCE", "a 1 . A C . . . ; b 1 . A G . . .");
        same("one between", "b 1 . A C . . . ; b 2 . A C . . . ; b 1 . A G . . .");
    }

    private static void joinWithoutAlts() {
        same("neither has ALTS", "b 1 . A . . . . ; b 1 . A . . . .");
        same("the first one has none", "b 1 . A . . . . ; b 1 . A C . . .");
        same("the second one has none", "b 1 . A C . . . ; b 1 . A . . . .");
        same("one between has none", "b 1 . A C . . . ; b 1 . A . . . . ; b 1 . A G . . .");
        joins("behind one that has none", "", "b 1 . A . . . . ; b 1 . A C . . . ; b 1 . A G . . .", "b 1 . A . . . . ; b 1 . A C,G . . .");
        joins("nothing", "", "", "");
        same("one", "b 1 . A C . . .");
    }

    private static void joinGoesOnBehindOneThatCannot() {
        joins("the second one takes the third one", "", "b 1 . A C,G . . . ; b 1 i A T,N 1 PASS . ; b 1 . A C . . .",
                "b 1 . A C,G . . . ; b 1 i A T,N,C 1 PASS .");
        joins("60 become 20", "", String.join(" ; ", sixtyAlike()), String.join(" ; ", twentyJoined()));
    }

    private static String[] sixtyAlike() {
        String[] records = new String[60];
        for (int i = 0; i < 60; i++) {
            records[i] = "b " + (1 + i / 3) + " r" + i + " A " + "CGT".charAt(i % 3) + " . . .";
        }
        return records;
    }

    private static String[] twentyJoined() {
        String[] records = new String[20];
        for (int i = 0; i < 20; i++) {
            records[i] = "b " + (1 + i) + " r" + 3 * i + " A C,G,T . . .";
        }
        return records;
    }

    private static void calls(String first, String second, String both) {
        joins("calls " + first + " and " + second, "p", "b 1 . A C . . . GT " + first + " ; b 1 . A G . . . GT " + second,
                "b 1 . A C,G . . . GT " + both);
    }

    private static void joinOfOneCallAndTwo() {
        calls("1", "0|1", "1|2");
        calls("1", "0/1", "1/2");
        calls(".", ".|.", ".|.");
        calls("0", ".|.", "0|.");
        calls("0", ".|0", "0|0");
        calls("0|1", "1", "2|1");
        calls("0/.", "1", "2/.");
        calls(".|.", "0", "0|.");
        calls("0|0", "1|1", "2|2");
        calls("0|0", "1/1", "2/2");
        calls("0/0", "1|1", "2/2");
        calls("1", "1", "1");
        calls("0", ".", "0");
        calls(".", "0", "0");
        calls(".", ".", ".");
    }

    private static void sorts(String what, int moved, String before, String after) {
        Desk desk = Check.desk(REFERENCE, "", parts(before));
        Check.due("sort: " + what, desk.sort(0), moved);
        Check.dueRecords("sort: " + what, desk, 0, parts(after));
    }

    private static void sortOfNothingAndOne() {
        sorts("nothing", 0, "", "");
        sorts("one", 0, "b 9 . A . . . .", "b 9 . A . . . .");
        sorts("two in order", 0, "b 1 . A . . . . ; b 2 . A . . . .", "b 1 . A . . . . ; b 2 . A . . . .");
        sorts("two", 2, "b 2 . A . . . . ; b 1 . A . . . .", "b 1 . A . . . . ; b 2 . A . . . .");
    }

    private static void sortKeepsTheOrderOfThoseAlike() {
        sorts("alike", 0, "b 1 z A C 3 . . ; b 1 y AA C 2 . . ; b 1 x A . 1 . .",
                "b 1 z A C 3 . . ; b 1 y AA C 2 . . ; b 1 x A . 1 . .");
        sorts("alike around others", 4, "b 2 z A . . . . ; b 1 c A . . . . ; b 2 y A . . . . ; b 1 b A . . . . ; b 2 x A . . . .",
                "b 1 c A . . . . ; b 1 b A . . . . ; b 2 z A . . . . ; b 2 y A . . . . ; b 2 x A . . . .");
    }

    private static void sortBySequenceFirst() {
        sorts("the one in the middle stays", 2, "c 1 . C . . . . ; b 60 . A . . . . ; a 8 . T . . . .",
                "a 8 . T . . . . ; b 60 . A . . . . ; c 1 . C . . . .");
        sorts("all go on", 3, "c 1 . C . . . . ; a 8 . T . . . . ; b 60 . A . . . .",
                "a 8 . T . . . . ; b 60 . A . . . . ; c 1 . C . . . .");
    }

    private static Desk two(String samples, String records, String others, String otherRecords) {
        Desk desk = Check.desk(REFERENCE, samples, parts(records));
        Check.due("read", Check.read(desk, 1, Check.table(others, parts(otherRecords))), parts(otherRecords).length);
        return desk;
    }

    private static void merges(String what, int pairs, Desk desk, String after) {
        Check.due("merge: " + what, desk.merge(), pairs);
        Check.due("merge: " + what + ": RECORDS of TABLE 1", desk.table(1, 0), 0);
        Check.due("merge: " + what + ": SAMPLES of TABLE 1", desk.table(1, 1), 0);
        Check.dueRecords("merge: " + what, desk, 0, parts(after));
    }

    private static void mergeWithNothing() {
        merges("nothing with nothing", 0, new Desk(), "");
        merges("with nothing", 0, two("p", "b 2 . A . . . . GT 0 ; b 1 . A C . . . GT 1", "", ""),
                "b 1 . A C . . . GT 1 ; b 2 . A . . . . GT 0");
        merges("nothing with one", 0, two("", "", "p", "b 2 . A . . . . GT 0 ; b 1 . A C . . . GT 1"),
                "b 1 . A C . . . GT 1 ; b 2 . A . . . . GT 0");
        merges("with SAMPLES alone", 0, two("p", "b 1 . A C . . . GT 1", "q r", ""), "b 1 . A C . . . GT 1 . .");
        merges("SAMPLES alone with one", 0, two("q r", "", "p", "b 1 . A C . . . GT 1"), "b 1 . A C . . . GT . . 1");
    }

    private static Desk counts(int size, int otherSize, String otherAlt) {
        Desk desk = Check.desk(REFERENCE, "", records(size, "C"));
        Check.read(desk, 1, Check.table("", records(otherSize, otherAlt)));
        return desk;
    }

    private static void mergeUpTo60() {
        Check.due("30 and 30", counts(30, 30, "G").merge(), 0);
        Check.due("59 and 1", counts(59, 1, "G").merge(), 0);
        Check.due("1 and 59", counts(1, 59, "G").merge(), 0);
        Check.due("60 and none", counts(60, 0, "G").merge(), 0);
        Check.due("none and 60", counts(0, 60, "G").merge(), 0);
        Desk desk = counts(60, 10, "C");
        Check.due("60 and 10 of them", desk.merge(), 10);
        Check.due("there are 60", desk.table(0, 0), 60);
        desk = counts(30, 30, "G");
        desk.merge();
        Check.due("there are 60", desk.table(0, 0), 60);
        Check.due("the last one", desk.row(0, 59, 1, 0), 'G');
        Check.due("its place", desk.record(0, 59, 1), 30);
    }

    private static void none(String what, Desk desk, int size, int otherSize) {
        Check.due("merge: " + what, desk.merge(), -1);
        Check.due("merge: " + what + ": TABLE 0 stays", desk.table(0, 0), size);
        Check.due("merge: " + what + ": TABLE 1 stays", desk.table(1, 0), otherSize);
    }

    private static void mergeBeyond60() {
        none("60 and 1", counts(60, 1, "G"), 60, 1);
        none("1 and 60", counts(1, 60, "G"), 1, 60);
        none("31 and 30", counts(31, 30, "G"), 31, 30);
        Desk desk = Check.desk(REFERENCE, "", records(60, "C"));
        Check.read(desk, 1, Check.table("", "b 1 . A C . . .", "b 1 . A C . . ."));
        none("60 and one of them twice", desk, 60, 2);
    }

    private static void mergeUpTo3Samples() {
        String[][] samples = {{"", "p q r"}, {"p", "q r"}, {"p q", "r"}, {"p q r", ""}};
        for (String[] pair : samples) {
            Desk desk = two(pair[0], "", pair[1], "");
            Check.due("merge to three SAMPLES", desk.merge(), 0);
            Check.due("SAMPLES", desk.table(0, 1), 3);
            desk.write(0);
            Check.due("their NAMES", Check.out(desk), Check.table("p q r"));
        }
    }

    private static void mergeBeyond3Samples() {
        none("three and one", two("p q r", "", "s", ""), 0, 0);
        none("one and three", two("p", "", "q r s", ""), 0, 0);
        none("two and two", two("p q", "", "r s", ""), 0, 0);
        none("three and three", two("p q r", "b 1 . A C . . . GT 1 1 1", "s t u", ""), 1, 0);
    }

    private static void mergeOfOneNameTwice() {
        none("one and the same", two("p", "b 1 . A C . . . GT 1", "p", "b 1 . A C . . . GT 1"), 1, 1);
        none("the second one", two("p q", "", "q", ""), 0, 0);
        none("the second one of TABLE 1", two("p", "", "q p", ""), 0, 0);
        none("long NAMES", two("abcdefghijklmnopqrst", "", "abcdefghijklmnopqrst", ""), 0, 0);
        Check.due("NAMES that are not alike", two("p", "", "pp P", "").merge(), 0);
    }

    private static void mergeSortsBoth() {
        merges("both SORTED", 0, two("", "b 3 x A . . . . ; b 1 y A . . . .", "", "b 3 z A C . . . ; b 2 u A . . . . ; a 1 v A . . . ."),
                "a 1 v A . . . . ; b 1 y A . . . . ; b 2 u A . . . . ; b 3 x A . . . . ; b 3 z A C . . .");
        merges("those of TABLE 0 first", 0, two("", "b 1 x A C . . . ; b 1 y A G . . .", "", "b 1 z A T . . . ; b 1 u A . . . ."),
                "b 1 x A C . . . ; b 1 y A G . . . ; b 1 z A T . . . ; b 1 u A . . . .");
    }

    private static void mergePutsOnlyOneToEach() {
        merges("two to one", 1, two("", "b 1 x A C . . .", "q", "b 1 y A C . . . GT 1 ; b 1 z A C . . . GT 0"),
                "b 1 x A C . . . GT 1 ; b 1 z A C . . . GT 0");
        merges("two to two", 2, two("", "b 1 x A C . . . ; b 1 w A C . . .", "q", "b 1 y A C . . . GT 1 ; b 1 z A C . . . GT 0"),
                "b 1 x A C . . . GT 1 ; b 1 w A C . . . GT 0");
        merges("one to two", 1, two("", "b 1 x A C . . . ; b 1 w A C . . .", "q", "b 1 y A C . . . GT 1"),
                "b 1 x A C . . . GT 1 ; b 1 w A C . . . GT .");
        merges("no ALTS", 1, two("", "b 1 x A . 3 PASS .", "q", "b 1 y A . 4 . . GT 0"), "b 1 x A . 3 PASS . GT 0");
    }

    private static void apart(String record, String other) {
        merges(record + " and " + other, 0, two("", record, "", other), record + " ; " + other);
    }

    private static void mergeOfRecordsThatAreNotAlike() {
        apart("b 1 . A C . . .", "b 1 . A G . . .");
        apart("b 1 . A C . . .", "b 1 . A . . . .");
        apart("b 1 . A C . . .", "b 1 . A C,G . . .");
        apart("b 1 . A C,G . . .", "b 1 . A G,C . . .");
        apart("b 1 . A C . . .", "b 1 . AA CA . . .");
        apart("b 1 . AA C . . .", "b 1 . A C . . .");
        apart("b 1 . A C . . .", "b 2 . A C . . .");
        apart("a 1 . A C . . .", "b 1 . A C . . .");
    }

    private static void mergeMakesOneCall() {
        Desk desk = two("p", "b 1 . A C . . . GT 0|1 ; b 2 . A C . . . GT 1|1", "q", "b 1 . A C . . . GT 1|0 ; b 3 . A C . . . GT 1|1");
        Check.due("merge", desk.merge(), 1);
        int[][] want = {{-1, -1, 1, 0}, {1, 1, 2, 1}};
        for (int what = 0; what < 4; what++) {
            Check.due("what RECORD 1 has not", desk.call(0, 1, 1, what), want[0][what]);
            Check.due("what it has", desk.call(0, 1, 0, what), want[1][what]);
            Check.due("what RECORD 2 has not", desk.call(0, 2, 0, what), want[0][what]);
            Check.due("what it has", desk.call(0, 2, 1, what), want[1][what]);
        }
        Check.due("both", desk.call(0, 0, 0, 1), 1);
        Check.due("both", desk.call(0, 0, 1, 0), 1);
    }

    private static void mergeDoesNotKnowNamesThatAreNoMore() {
        Desk desk = new Desk();
        Check.reference(desk, REFERENCE);
        for (int k = 0; k < 6; k++) {
            Check.read(desk, k % 2, Check.table("p q r"));
        }
        Check.read(desk, 0, Check.table("p"));
        Check.read(desk, 1, Check.table("q r"));
        Check.due("merge", desk.merge(), 0);
        Check.due("SAMPLES", desk.table(0, 1), 3);
    }

    /** RECORDS that came from the other TABLE stay when others are read, and so do those that are read then. */
    private static void tablesHaveRecordsOfTheirOwn() {
        Desk desk = two("", "b 1 x A C . . . ; b 1 y A G . . . ; b 2 z A C . . .", "", "b 3 u A C . . . ; b 1 v A C,G . . .");
        Check.due("join", desk.join(0), 2);
        Check.due("merge", desk.merge(), 1);
        String[] others = {"a 1 . A C . . .", "a 2 . C G . . .", "a 3 . G . . . .", "a 4 . T . . . ."};
        Check.read(desk, 1, Check.table("", others));
        Check.read(desk, 1, Check.table("", others));
        Check.dueRecords("TABLE 0", desk, 0, "b 1 x A C,G . . .", "b 2 z A C . . .", "b 3 u A C . . .");
        Check.read(desk, 0, Check.table("", others));
        Check.read(desk, 1, Check.table("", others));
        Check.dueRecords("TABLE 0", desk, 0, others);
        Check.dueRecords("TABLE 1", desk, 1, others);
    }
}
