/** The edges of a HAPLOTYPE: promises 17 (apply), 18 (carried) and 19 (back); and of promise 20 (same). */
public final class HaplotypeEdgeTest {
    private static final String REFERENCE = ">a\nACGTACGT\n>b\nTTTTTTTTTTTTTTTTTTTTTTTTTTTTTT\n>c\nG\n";

    public static void main(String[] args) {
        nothingPutOn();
        nothingPutOnAfterAReference();
        noRecords();
        oneClashes();
        oneOnlyTouches();
        clashesThatDoNotCount();
        aClashBehindALongRef();
        recordsInAnyOrder();
        aShorterRow();
        aLongerRow();
        aRowOfTheSameSize();
        theFirstPlace();
        theLastPlace();
        theWholeSequence();
        placesThatThereAreNot();
        rowsOf24();
        sixtyRecords();
        theSecondCall();
        theLastOneCounts();
        whatWasPutOnStays();
        sameWithItself();
        sameWithNoAlt();
        sameWithMoreAlts();
        sameOfOtherSequences();
        sameOfOtherTables();
        sameAtTheEnds();
        notTheSame();
        onlyTheLastLetterDiffers();
        onlyTheFirstLetterDiffers();
        Check.end("HaplotypeEdgeTest");
    }

    private static Desk desk(String... records) {
        String[] lines = new String[records.length];
        for (int i = 0; i < lines.length; i++) {
            String[] part = records[i].split(" ");
            lines[i] = part[0] + " " + part[1] + " . " + part[2] + " " + part[3] + " . . . GT " + (part.length > 4 ? part[4] : "1");
        }
        return Check.desk(REFERENCE, "p", lines);
    }

    private static void puts(String what, Desk desk, int s, String letters) {
        Check.due(what, desk.apply(0, 0, 0, s), letters.length());
        Check.due(what, Check.out(desk), letters);
    }

    /** What is due for the places from 0 on, up to one behind the last. */
    private static void carries(String what, Desk desk, int... want) {
        for (int place = 0; place <= want.length + 1; place++) {
            Check.due(what + ": carried " + place, desk.carried(place), place == 0 || place > want.length ? -1 : want[place - 1]);
        }
    }

    private static void brings(String what, Desk desk, int... want) {
        for (int place = 0; place <= want.length + 1; place++) {
            Check.due(what + ": back " + place, desk.back(place), place == 0 || place > want.length ? -1 : want[place - 1]);
        }
    }

    private static void nothingPutOn() {
        for (int place : new int[] {Integer.MIN_VALUE, -1, 0, 1, 2, 3000, Integer.MAX_VALUE}) {
            Check.due("carried " + place + " of a new object", new Desk().carried(place), -1);
            Check.due("back " + place + " of a new object", new Desk().back(place), -1);
            Check.due("carried " + place + " before apply", desk("a 1 A C").carried(place), -1);
            Check.due("back " + place + " before apply", desk("a 1 A C").back(place), -1);
        }
    }

    private static void nothingPutOnAfterAReference() {
        Desk desk = desk("a 1 A C");
        desk.apply(0, 0, 0, 0);
        Check.due("put on", desk.carried(8), 8);
        Check.reference(desk, "x");
        Check.due("still after a fault", desk.carried(8), 8);
        Check.reference(desk, ">a\nACGTACGT\n");
        for (int place = 1; place <= 8; place++) {
            Check.due("carried after a reference", desk.carried(place), -1);
            Check.due("back after a reference", desk.back(place), -1);
        }
    }

    private static void noRecords() {
        Desk desk = desk();
        puts("no RECORDS", desk, 0, "ACGTACGT");
        carries("no RECORDS", desk, 1, 2, 3, 4, 5, 6, 7, 8);
        brings("no RECORDS", desk, 1, 2, 3, 4, 5, 6, 7, 8);
        puts("no RECORDS of it", desk("a 1 A C"), 2, "G");
        puts("no CALL above 0", desk("a 1 A C 0", "a 2 C G .", "a 3 G . 0"), 0, "ACGTACGT");
    }

    private static void clashes(String what, String one, String other) {
        Check.due("clash: " + what, desk(one, other).apply(0, 0, 0, 0), -1);
        Check.due("clash, the other way round: " + what, desk(other, one).apply(0, 0, 0, 0), -1);
    }

    private static void oneClashes() {
        clashes("at one PLACE", "a 3 G T", "a 3 G A");
        clashes("at one PLACE, alike", "a 3 G T", "a 3 G T");
        clashes("at one PLACE, one REF longer", "a 3 GT G", "a 3 G T");
        clashes("at the last PLACE of a REF", "a 3 GTA G", "a 5 A T");
        clashes("in a REF", "a 3 GTACG G", "a 4 T A");
        clashes("at the first PLACE", "a 1 A C", "a 1 ACGTACGT A");
        clashes("at the last PLACE", "a 7 GT G", "a 8 T A");
    }

    private static void oneOnlyTouches() {
        puts("touching", desk("a 3 GT G", "a 5 A C"), 0, "ACGCCGT");
        puts("touching, the other way round", desk("a 5 A C", "a 3 GT G"), 0, "ACGCCGT");
        puts("all PLACES", desk("a 1 AC T", "a 3 GT GGG", "a 5 A C", "a 6 CGT AA"), 0, "TGGGCAA");
        Desk desk = desk("a 3 GT G", "a 5 A CC");
        desk.apply(0, 0, 0, 0);
        carries("touching", desk, 1, 2, 3, -1, 4, 6, 7, 8);
        brings("touching", desk, 1, 2, 3, 5, -1, 6, 7, 8);
    }

    private static void clashesThatDoNotCount() {
        puts("a CALL of 0", desk("a 3 GTA G", "a 4 T A 0"), 0, "ACGCGT");
        puts("a CALL that is NONE", desk("a 3 GTA G .", "a 4 T A"), 0, "ACGAACGT");
        puts("no ALT", desk("a 3 GTA G", "a 4 T . 0"), 0, "ACGCGT");
        puts("the other CALL", desk("a 3 GTA G 1|0", "a 4 T A 0|1"), 0, "ACGCGT");
        puts("another SEQUENCE", desk("a 1 ACG G", "b 2 T A"), 0, "GTACGT");
    }

    private static void aClashBehindALongRef() {
        Check.due("the one before the one before", desk("b 1 TTTTTTTT T", "b 3 T A", "b 5 T A").apply(0, 0, 0, 1), -1);
        Check.due("only the last two", desk("b 1 T A", "b 3 T A", "b 5 TT A", "b 6 T A").apply(0, 0, 0, 1), -1);
        Check.due("only the first two", desk("b 1 TT A", "b 2 T A", "b 5 T A", "b 7 T A").apply(0, 0, 0, 1), -1);
    }

    private static void recordsInAnyOrder() {
        puts("by their PLACES", desk("a 7 G C", "a 1 A T", "b 1 T A", "a 4 T G"), 0, "TCGGACCT");
    }

    private static void aShorterRow() {
        Desk desk = desk("a 3 GTAC TA");
        puts("a shorter ROW", desk, 0, "ACTAGT");
        carries("a shorter ROW", desk, 1, 2, 3, 4, -1, -1, 5, 6);
        brings("a shorter ROW", desk, 1, 2, 3, 4, 7, 8);
    }

    private static void aLongerRow() {
        Desk desk = desk("a 3 GT CCCC");
        puts("a longer ROW", desk, 0, "ACCCCCACGT");
        carries("a longer ROW", desk, 1, 2, 3, 4, 7, 8, 9, 10);
        brings("a longer ROW", desk, 1, 2, 3, 4, -1, -1, 5, 6, 7, 8);
    }

    private static void aRowOfTheSameSize() {
        Desk desk = desk("a 3 GT CC");
        puts("as many", desk, 0, "ACCCACGT");
        carries("as many", desk, 1, 2, 3, 4, 5, 6, 7, 8);
        brings("as many", desk, 1, 2, 3, 4, 5, 6, 7, 8);
    }

    private static void theFirstPlace() {
        Desk desk = desk("a 1 AC G");
        puts("a shorter ROW at the first PLACE", desk, 0, "GGTACGT");
        carries("a shorter ROW at the first PLACE", desk, 1, -1, 2, 3, 4, 5, 6, 7);
        brings("a shorter ROW at the first PLACE", desk, 1, 3, 4, 5, 6, 7, 8);
        desk = desk("a 1 A GGG");
        puts("a longer ROW at the first PLACE", desk, 0, "GGGCGTACGT");
        carries("a longer ROW at the first PLACE", desk, 1, 4, 5, 6, 7, 8, 9, 10);
        brings("a longer ROW at the first PLACE", desk, 1, -1, -1, 2, 3, 4, 5, 6, 7, 8);
    }

    private static void theLastPlace() {
        Desk desk = desk("a 7 GT A");
        puts("a shorter ROW at the last PLACE", desk, 0, "ACGTACA");
        carries("a shorter ROW at the last PLACE", desk, 1, 2, 3, 4, 5, 6, 7, -1);
        brings("a shorter ROW at the last PLACE", desk, 1, 2, 3, 4, 5, 6, 7);
        desk = desk("a 8 T AAA");
        puts("a longer ROW at the last PLACE", desk, 0, "ACGTACGAAA");
        carries("a longer ROW at the last PLACE", desk, 1, 2, 3, 4, 5, 6, 7, 8);
        brings("a longer ROW at the last PLACE", desk, 1, 2, 3, 4, 5, 6, 7, 8, -1, -1);
    }

    private static void theWholeSequence() {
        Desk desk = desk("a 1 ACGTACGT N");
        puts("all of it", desk, 0, "N");
        carries("all of it", desk, 1, -1, -1, -1, -1, -1, -1, -1);
        brings("all of it", desk, 1);
        desk = desk("c 1 G TTT");
        puts("a SEQUENCE of one LETTER", desk, 2, "TTT");
        carries("a SEQUENCE of one LETTER", desk, 1);
        brings("a SEQUENCE of one LETTER", desk, 1, -1, -1);
    }

    private static void placesThatThereAreNot() {
        Desk desk = desk("a 2 C CAA", "a 5 ACG A");
        Check.due("apply", desk.apply(0, 0, 0, 0), 8);
        for (int place : new int[] {Integer.MIN_VALUE, -8, -1, 0, 9, 10, 3001, Integer.MAX_VALUE}) {
            Check.due("carried " + place, desk.carried(place), -1);
            Check.due("back " + place, desk.back(place), -1);
        }
        Check.due("the first PLACE", desk.carried(1), 1);
        Check.due("the last PLACE", desk.carried(8), 8);
        Check.due("the first one back", desk.back(1), 1);
        Check.due("the last one back", desk.back(8), 8);
    }

    private static void rowsOf24() {
        String ts = Check.repeat("T", 24);
        String as = Check.repeat("A", 24);
        puts("an ALT of 24", desk("b 30 T " + as), 1, ts + "TTTTT" + as);
        puts("a REF of 24", desk("b 7 " + ts + " A"), 1, "TTTTTTA");
        Desk desk = desk("b 4 " + ts + " " + as);
        puts("both of 24", desk, 1, "TTT" + as + "TTT");
        Check.due("carried", desk.carried(27), 27);
        Check.due("back", desk.back(28), 28);
    }

    private static void sixtyRecords() {
        String[] records = new String[60];
        for (int i = 0; i < 60; i++) {
            records[i] = i < 30 ? "b " + (30 - i) + " T AC" : "a 1 A C 0";
        }
        Desk desk = desk(records);
        Check.due("30 of 60", desk.apply(0, 0, 0, 1), 60);
        Check.due("the first LETTER", desk.out(0), 'A');
        Check.due("the last LETTER", desk.out(59), 'C');
        Check.due("the last PLACE", desk.carried(30), 59);
        Check.due("back", desk.back(59), 30);
        Check.due("back", desk.back(60), -1);
    }

    private static void theSecondCall() {
        Desk desk = desk("a 1 A C,G 1|2", "a 2 C T 1", "a 3 G T .|1", "a 4 T A 1/.");
        puts("the first CALLS", desk, 0, "CTGAACGT");
        Check.due("the second CALLS", desk.apply(0, 0, 1, 0), 8);
        Check.due("the second CALLS", Check.out(desk), "GCTTACGT");
    }

    private static void theLastOneCounts() {
        Desk desk = desk("a 1 A CCC", "c 1 G TT");
        desk.apply(0, 0, 0, 0);
        Check.due("carried", desk.carried(8), 10);
        desk.apply(0, 0, 0, 2);
        carries("of another SEQUENCE", desk, 1);
        brings("of another SEQUENCE", desk, 1, -1);
        desk.apply(0, 0, 1, 0);
        carries("of the other CALLS", desk, 1, 2, 3, 4, 5, 6, 7, 8);
    }

    private static void whatWasPutOnStays() {
        Desk desk = desk("a 1 A CCC 1|1", "a 1 A C 0|1");
        desk.apply(0, 0, 0, 0);
        Check.due("a clash", desk.apply(0, 0, 1, 0), -1);
        Check.due("OUT stays", Check.out(desk), "CCCCGTACGT");
        desk.normalise(0);
        desk.split(0);
        desk.sort(0);
        desk.join(0);
        desk.write(0);
        desk.again();
        desk.read(1);
        desk.merge();
        Check.read(desk, 0, Check.table(""));
        carries("after all of these", desk, 1, 4, 5, 6, 7, 8, 9, 10);
        brings("after all of these", desk, 1, -1, -1, 2, 3, 4, 5, 6, 7, 8);
    }

    private static void same(String one, String other, boolean want) {
        Desk desk = desk(one, other);
        Check.due("same: " + one + " and " + other, desk.same(0, 0, 0, 1) ? 1 : 0, want ? 1 : 0);
        Check.due("same: " + other + " and " + one, desk.same(0, 1, 0, 0) ? 1 : 0, want ? 1 : 0);
    }

    private static void sameWithItself() {
        Desk desk = desk("a 1 A C", "a 1 A C,G", "a 1 A . 0");
        int[] want = {1, 0, 0};
        for (int i = 0; i < 3; i++) {
            Check.due("a RECORD with itself", desk.same(0, i, 0, i) ? 1 : 0, want[i]);
        }
    }

    private static void sameWithNoAlt() {
        same("a 1 A . 0", "a 1 A . 0", false);
        same("a 1 A . 0", "a 1 A C", false);
        same("a 1 A . 0", "a 1 A C,G", false);
    }

    private static void sameWithMoreAlts() {
        same("a 1 A C,G", "a 1 A C,G", false);
        same("a 1 A C,G", "a 1 A C", false);
        same("a 1 A G,C", "a 1 A C", false);
        same("a 1 A C,G,T", "a 1 A C", false);
    }

    private static void sameOfOtherSequences() {
        Desk desk = new Desk();
        Check.reference(desk, ">a\nAC\n>b\nAC\n");
        Check.read(desk, 0, Check.table("", "a 1 . A C . . .", "b 1 . A C . . .", "b 1 . A C . . ."));
        Check.due("other SEQUENCES with the same LETTERS", desk.same(0, 0, 0, 1) ? 1 : 0, 0);
        Check.due("one SEQUENCE", desk.same(0, 1, 0, 2) ? 1 : 0, 1);
    }

    private static void sameOfOtherTables() {
        Desk desk = desk("a 1 A C", "b 2 T TT");
        Check.read(desk, 1, Check.table("", "b 30 . T TT . . .", "a 1 . AC CC . . ."));
        int[][] want = {{0, 1}, {1, 0}};
        for (int i = 0; i < 2; i++) {
            for (int j = 0; j < 2; j++) {
                Check.due("same " + i + " " + j, desk.same(0, i, 1, j) ? 1 : 0, want[i][j]);
                Check.due("same, the other way round", desk.same(1, j, 0, i) ? 1 : 0, want[i][j]);
            }
        }
    }

    private static void sameAtTheEnds() {
        same("b 1 T TT", "b 30 T TT", true);
        same("b 1 TT T", "b 29 TT T", true);
        same("b 1 T A", "b 30 T A", false);
        same("b 1 T AT", "b 1 T AT", true);
        same("b 30 T TA", "b 29 TT TTA", true);
        same("a 1 ACGTACGT C", "a 2 CGTACGT C", false);
        same("a 1 ACGTACGT N", "a 1 ACGTACGT N", true);
        same("a 1 ACGTACGT ACGT", "a 1 ACGTA A", true);
        same("a 1 ACGTACGT ACGT", "a 4 TACGT T", true);
    }

    private static void notTheSame() {
        same("a 1 A C", "a 1 A G", false);
        same("a 1 A AA", "a 1 A AAA", false);
        same("a 1 AC A", "a 1 A AC", false);
        same("b 5 T TA", "b 6 T TA", false);
        same("b 5 T TA", "b 6 T AT", true);
        same("b 5 TT T", "b 5 TTT T", false);
        same("a 2 C G", "a 3 G C", false);
        same("a 3 G N", "a 3 GT NT", true);
    }

    private static void onlyTheLastLetterDiffers() {
        same("a 3 GT GA", "a 3 GT GC", false);
        same("b 2 T A", "b 2 TTT ATG", false);
        same("b 2 T A", "b 2 TTT ATT", true);
        same("b 2 TT AT", "b 1 TTTT TATG", false);
        same("b 29 TT AT", "b 29 TT AG", false);
        same("b 2 T TA", "b 2 TTTT TATTG", false);
    }

    private static void onlyTheFirstLetterDiffers() {
        same("a 3 GT AT", "a 3 GT CT", false);
        same("b 4 T A", "b 2 TTT GTA", false);
        same("b 4 T A", "b 2 TTT TTA", true);
        same("b 1 TT AT", "b 1 TT GT", false);
        same("b 4 T TA", "b 1 TTTT GTTTA", false);
    }
}
