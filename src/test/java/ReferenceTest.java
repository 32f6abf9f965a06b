/** Promises 3 (reference), 5 (place), 6 (sequence) and 7 (letter). */
public final class ReferenceTest {
    public static void main(String[] args) {
        ordinary();
        edges();
        faults();
        limits();
        whatChanges();
        Check.end("ReferenceTest");
    }

    private static void ordinary() {
        Desk desk = new Desk();
        Check.due("reference", Check.reference(desk, ">Ab_9. any ~ text\nACGT\nacgt\nnN\n>b\nGG\n"), 2);
        Check.due("place", desk.place(), -1);
        int[][] want = {{10, 18, 4, 5}, {2, 34, 2, 1}};
        for (int s = 0; s < 2; s++) {
            for (int what = 0; what < 4; what++) {
                Check.due("sequence " + s + " " + what, desk.sequence(s, what), want[s][what]);
            }
        }
        StringBuilder letters = new StringBuilder();
        for (int p = 1; p <= 10; p++) {
            letters.append((char) desk.letter(0, p));
        }
        Check.due("letters", letters.toString(), "ACGTACGTNN");
        StringBuilder name = new StringBuilder();
        for (int k = 0; k < 5; k++) {
            name.append((char) desk.letter(0, -k));
        }
        Check.due("name", name.toString(), "Ab_9.");
        for (int place : new int[] {11, -5, Integer.MAX_VALUE, Integer.MIN_VALUE, Integer.MIN_VALUE + 1}) {
            Check.dueIndex("letter(0, " + place + ")", () -> desk.letter(0, place));
        }
        for (int s : new int[] {-1, 2, 8, Integer.MAX_VALUE, Integer.MIN_VALUE}) {
            Check.dueIndex("letter(" + s + ", 1)", () -> desk.letter(s, 1));
            Check.dueIndex("sequence(" + s + ", 0)", () -> desk.sequence(s, 0));
        }
        for (int what : new int[] {-1, 4, Integer.MAX_VALUE, Integer.MIN_VALUE}) {
            Check.dueIndex("sequence(0, " + what + ")", () -> desk.sequence(0, what));
        }
    }

    private static void edges() {
        fine(">a \nA\n", 1);
        fine(">a  ~\nA\n", 1);
        fine(">abcdefghijklmnopqrst\nA\n", 1);
        fine(">abcdefghijklmnopqrst and more\nA\n", 1);
        fine(">a\nACG\nACG\n>A\nT\n", 2);
        fine(">a\nACG\nAC\n>aa\nT\n", 2);
        StringBuilder eight = new StringBuilder();
        for (int s = 0; s < 8; s++) {
            eight.append(">s").append(s).append("\nA\n");
        }
        fine(eight.toString(), 8);
        fine(">AZaz09_.\nA\n", 1);
        for (String octet : new String[] {"@", "[", "`", "{", "/", ":", "-", "\u00e9"}) {
            fault(">a" + octet + "\nA\n", 2, 2);
        }
        Desk desk = new Desk();
        Check.reference(desk, ">abcdef\nA\n>ghijkl\nA\n");
        Check.reference(desk, ">abcdef\nA\n>zzzzzz\nA\n");
        Check.due("a name twice behind longer ones", Check.reference(desk, ">x\nA\n>x\nA\n"), -4);
    }

    private static void faults() {
        fault("", 1, 0);
        fault(">", 1, 1);
        fault(">a", 1, 2);
        fault(">a b", 1, 4);
        fault(">a\n", 1, 3);
        fault(">a\nA", 1, 4);
        fault(">a\nA\n>", 1, 6);
        fault(">a\nA\n>b\n", 1, 8);
        fault("A\n", 2, 0);
        fault("\n", 2, 0);
        fault(">\n", 2, 1);
        fault("> a\nA\n", 2, 1);
        fault(">a-\nA\n", 2, 2);
        fault(">a\t\nA\n", 2, 2);
        fault(">a b\tc\nA\n", 2, 4);
        fault(">a b\u007f\nA\n", 2, 4);
        fault(">a\n\nA\n", 2, 3);
        fault(">a\n>b\nA\n", 2, 3);
        fault(">a\nA\n\n", 2, 5);
        fault(">a\nA C\n", 2, 4);
        fault(">a\nAC>\n", 2, 5);
        fault(">a\nAC\nAU\n", 2, 7);
        fault(">abcdefghijklmnopqrstu\nA\n", 3, 21);
        fault(">abcdefghijklmnopqrst-\nA\n", 2, 21);
        StringBuilder nine = new StringBuilder();
        for (int s = 0; s < 9; s++) {
            nine.append(">s").append(s).append("\nA\n");
        }
        fault(nine.toString(), 3, 48);
        fault(nine.substring(0, 46) + ">", 2, 46);
        fault(">a\nA\n>b\nC\n>a\nG\n", 4, 11);
        fault(">a\nA\n>a of\nG\n", 4, 6);
        fault(">a\nA\n>a\u0001\nG\n", 2, 7);
        fault(">a\nA\n>a o", 1, 9);
        fault(">a\nA\n>a\n", 4, 6);
        fault(">a\nAC\nACG\n", 5, 8);
        fault(">a\nAC\nA\nA\n", 5, 8);
        fault(">a\nAC\nA\nX\n", 2, 8);
        fault(">a\nAC\nA\n\n", 2, 8);
        fault(">a\nACG\nA\n>b\nAC\nACG\n", 5, 17);
    }

    private static void limits() {
        // 60 lines of 50 letters are 3000 of them; the letters begin at 3.
        String lines = Check.repeat(Check.repeat("ACGTN", 10) + "\n", 60);
        fine(">a\n" + lines, 1);
        fault(">a\n" + lines + "A\n", 3, 3 + 3060);
        fault(">a\n" + lines + "\n", 2, 3 + 3060);
        fault(">a\n" + lines + ">b\nA\n", 3, 3 + 3060 + 3);
        // The 3001st letter that is beyond the width too: 3 comes before 5.
        fault(">a\n" + lines.substring(0, 3059) + "A\n", 3, 3 + 3059);
        String shortLine = Check.repeat(Check.repeat("A", 50) + "\n", 59) + Check.repeat("A", 49) + "\n";
        fault(">b\nC\n>a\n" + shortLine + "A\n", 3, 8 + 3059);
        fault(">a\n" + shortLine + "A\n", 5, 3 + 3059);
        fault(">a\n" + lines.substring(0, 51) + lines.substring(0, 50) + "A\n", 5, 3 + 101);
    }

    private static void whatChanges() {
        Desk desk = Check.desk(">a\nACGT\n", "p", "a 2 . C T . . . GT 1");
        Check.read(desk, 1, Check.table("q", "a 3 . G T . . . GT 1"));
        desk.apply(0, 0, 0, 0);
        Check.due("a fault", Check.reference(desk, ">z\nGG\nGGG\n"), -5);
        Check.due("the letters stay", desk.letter(0, 1), 'A');
        Check.due("the name stays", desk.letter(0, 0), 'a');
        Check.due("the table stays", desk.table(0, 0), 1);
        Check.due("what was put on stays", desk.carried(1), 1);
        Check.due("place", desk.place(), 8);
        Check.due("reference", Check.reference(desk, ">z\nGG\n"), 1);
        Check.due("place stays", desk.place(), 8);
        for (int t = 0; t < 2; t++) {
            Check.due("records", desk.table(t, 0), 0);
            Check.due("samples", desk.table(t, 1), 0);
            Check.due("name of sample", desk.table(t, 2), -1);
        }
        Check.due("carried", desk.carried(1), -1);
        Check.due("back", desk.back(1), -1);
        Check.due("out stays", Check.out(desk), "ATGT");
    }

    private static void fine(String text, int count) {
        Desk desk = new Desk();
        Check.due("reference of " + text, Check.reference(desk, text), count);
        Check.due("place of " + text, desk.place(), -1);
    }

    private static void fault(String text, int number, int place) {
        Desk desk = new Desk();
        Check.due("reference of " + text, Check.reference(desk, text), -number);
        Check.due("place of " + text, desk.place(), place);
        Check.dueIndex("sequence after " + text, () -> desk.sequence(0, 0));
    }
}
