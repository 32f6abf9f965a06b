/** Promises 17 (apply), 18 (carried) and 19 (back). */
public final class ApplyTest {
    private static final String REFERENCE = ">a\nACGTACGTAC\n>b\nTTT\n";

    public static void main(String[] args) {
        ordinary();
        places();
        clashes();
        recordsThatAreNoMore();
        whatStays();
        wrongArguments();
        Check.end("ApplyTest");
    }

    private static void ordinary() {
        Desk desk = Check.desk(REFERENCE, "p q", "a 9 . A T,AGG . . . GT 2|1 0", "b 1 . TTT G . . . GT 1|0 ./1",
                "a 2 . CGT C . . . GT 1|0 .", "a 5 . A . . . . GT 0|0 0/0", "a 10 . C CAAAA . . . GT 0|1 1");
        puts(desk, 0, 0, 0, "ACACGTAGGC");
        puts(desk, 0, 1, 0, "ACGTACGTTCAAAA");
        puts(desk, 1, 0, 0, "ACGTACGTACAAAA");
        puts(desk, 1, 1, 0, "ACGTACGTAC");
        puts(desk, 0, 0, 1, "G");
        puts(desk, 0, 1, 1, "TTT");
        puts(desk, 1, 0, 1, "TTT");
        puts(desk, 1, 1, 1, "G");
    }

    private static void puts(Desk desk, int sample, int which, int s, String letters) {
        String what = "apply(0, " + sample + ", " + which + ", " + s + ")";
        Check.due(what, desk.apply(0, sample, which, s), letters.length());
        Check.due(what, Check.out(desk), letters);
    }

    private static void places() {
        Desk desk = Check.desk(REFERENCE, "p", "a 9 . A AGG . . . GT 1", "a 2 . CGT GC . . . GT 1", "a 5 . AC TTTT . . . GT 1");
        Check.due("apply", desk.apply(0, 0, 0, 0), 13);
        Check.due("letters", Check.out(desk), "AGCTTTTGTAGGC");
        int[] carried = {-1, 1, 2, 3, -1, 4, 5, 8, 9, 10, 13, -1};
        for (int place = 0; place < carried.length; place++) {
            Check.due("carried(" + place + ")", desk.carried(place), carried[place]);
        }
        int[] back = {-1, 1, 2, 3, 5, 6, -1, -1, 7, 8, 9, -1, -1, 10, -1};
        for (int place = 0; place < back.length; place++) {
            Check.due("back(" + place + ")", desk.back(place), back[place]);
        }
        for (int place : new int[] {-1, 8001, Integer.MIN_VALUE, Integer.MAX_VALUE}) {
            Check.due("carried(" + place + ")", desk.carried(place), -1);
            Check.due("back(" + place + ")", desk.back(place), -1);
        }
    }

    private static void clashes() {
        clash("one place", "a 3 . G T . . . GT 1", "a 3 . G A . . . GT 1", true);
        clash("in a ref", "a 3 . GTA G . . . GT 1", "a 5 . A C . . . GT 1", true);
        clash("behind a ref", "a 3 . GT G . . . GT 1", "a 5 . A C . . . GT 1", false);
        clash("a call of 0", "a 3 . GTA G . . . GT 1", "a 5 . A C . . . GT 0", false);
        clash("a call that is NONE", "a 3 . GTA G . . . GT .", "a 5 . A C . . . GT 1", false);
        clash("another sequence", "a 1 . ACG A . . . GT 1", "b 2 . T C . . . GT 1", false);
        clash("the other call", "a 3 . GTA G . . . GT 1/0", "a 5 . A C . . . GT 0/1", false);
    }

    private static void clash(String what, String record, String other, boolean want) {
        Desk desk = Check.desk(REFERENCE, "p", record, other);
        Check.due(what, desk.apply(0, 0, 0, 0) == -1 ? 1 : 0, want ? 1 : 0);
        desk = Check.desk(REFERENCE, "p", other, record);
        Check.due(what + ", the other way round", desk.apply(0, 0, 0, 0) == -1 ? 1 : 0, want ? 1 : 0);
    }

    private static void recordsThatAreNoMore() {
        Desk desk = new Desk();
        Check.reference(desk, REFERENCE);
        for (int k = 0; k < 3; k++) {
            Check.read(desk, 0, Check.table("p", "a 3 . G T . . . GT 1", "a 5 . A T . . . GT 1"));
        }
        Check.read(desk, 0, Check.table("p", "a 3 . G C . . . GT 1"));
        puts(desk, 0, 0, 0, "ACCTACGTAC");
    }

    private static void whatStays() {
        Desk desk = Check.desk(REFERENCE, "p", "a 3 . GT G . . . GT 1/1", "a 3 . GT GGGG . . . GT 0/1");
        desk.apply(0, 0, 0, 0);
        Check.due("a clash", desk.apply(0, 0, 1, 0), -1);
        Check.due("out stays", Check.out(desk), "ACGACGTAC");
        Check.due("carried stays", desk.carried(5), 4);
        Check.due("back stays", desk.back(4), 5);
        desk.write(0);
        Check.read(desk, 0, Check.table(""));
        Check.due("carried stays after write and read", desk.carried(5), 4);
        Check.due("carried of a place that is lost", desk.carried(4), -1);
        Check.due("no place beyond", desk.carried(11), -1);
        Check.due("no place beyond", desk.back(10), -1);
        Check.dueIndex("apply without samples", () -> desk.apply(0, 0, 0, 0));
        Check.due("carried stays after an exception", desk.carried(5), 4);
    }

    private static void wrongArguments() {
        Desk desk = Check.desk(REFERENCE, "p", "a 3 . GT G . . . GT 1/1");
        for (int bad : new int[] {-1, 2, Integer.MAX_VALUE, Integer.MIN_VALUE}) {
            Check.dueIndex("apply", () -> desk.apply(bad, 0, 0, 0));
            Check.dueIndex("apply", () -> desk.apply(0, bad, 0, 0));
            Check.dueIndex("apply", () -> desk.apply(0, 0, bad, 0));
            Check.dueIndex("apply", () -> desk.apply(0, 0, 0, bad));
        }
        Check.dueIndex("apply", () -> desk.apply(0, 1, 0, 0));
        Check.dueIndex("apply", () -> desk.apply(1, 0, 0, 0));
        Check.due("nothing was put on", desk.carried(1), -1);
        Check.due("nothing was put on", desk.back(1), -1);
    }
}
