/** Promises 2 (feed), 22 (out) and 23 (again). */
public final class TapeTest {
    public static void main(String[] args) {
        feeding();
        outAndAgain();
        Check.end("TapeTest");
    }

    private static void feeding() {
        Desk desk = new Desk();
        for (int n : new int[] {0, -1, 9, Integer.MIN_VALUE, Integer.MAX_VALUE}) {
            Check.dueArgument("feed(" + n + ")", () -> desk.feed(n, 0));
        }
        // Only the n lowest octets count, the lowest first.
        Check.due("feed", desk.feed(1, 0x7777777777777700L | '>'), 1);
        Check.due("feed", desk.feed(2, 0x0a00L | 'q'), 3);
        Check.due("feed", desk.feed(8, 0x0a41434754544e41L), 11);
        Check.due("reference", desk.reference(), 1);
        Check.due("first letter", desk.letter(0, 1), 'A');
        Check.due("last letter", desk.letter(0, 7), 'A');
        Check.due("letter 2", desk.letter(0, 2), 'N');
        Check.due("the tape is used up", desk.feed(1, 255), 1);
        Check.due("an octet above 127", desk.reference(), -2);
        Check.due("its place", desk.place(), 0);
        Check.due("the tape is used up by a fault", desk.feed(1, '>'), 1);
    }

    private static void outAndAgain() {
        Desk desk = Check.desk(">a\nACGT\n", "p", "a 2 . C T . . . GT 1");
        Check.due("apply", desk.apply(0, 0, 0, 0), 4);
        Check.due("out", Check.out(desk), "ATGT");
        for (int k : new int[] {-1, 4, 8000, Integer.MIN_VALUE, Integer.MAX_VALUE}) {
            Check.due("out(" + k + ")", desk.out(k), -1);
        }
        desk.feed(5, 0);
        Check.due("again", desk.again(), 4);
        Check.due("out stays", Check.out(desk), "ATGT");
        Check.due("feed comes behind it", desk.feed(1, 10), 5);
        Check.due("the tape is what was out", desk.reference(), -2);
        Check.due("place", desk.place(), 0);
        Check.due("write", desk.write(0) > 0 ? 1 : 0, 1);
        desk.again();
        Check.due("what is written can be read", desk.read(1), 1);
        Check.due("again", desk.again(), desk.write(1));
    }
}
