/** Promise 21 (write), and that what is written is read again as it was. */
public final class WriteTest {
    public static void main(String[] args) {
        ordinary();
        wrongArguments();
        Check.end("WriteTest");
    }

    private static void ordinary() {
        Desk desk = new Desk();
        Check.due("an empty table", desk.write(1), 60);
        Check.due("an empty table", Check.out(desk), Check.table(""));
        String[] records = {"a 1 . A C,GG,T 0 PASS . GT 0|3 .", "Long.name_1 10 x;y.z C . 999999 . . GT ./. 0",
            "a 2 ... CG . . PASS . GT .|0 0/0", "a 10 1 C CT 100 . . GT 1/1 0|1"};
        desk = new Desk();
        Check.reference(desk, ">a\nACGTACGTAC\n>Long.name_1\nACGTACGTAC\n");
        String text = Check.table("p q!", records);
        Check.read(desk, 1, text.replace(Check.FORMAT, Check.FORMAT + "##source=x\n").replace("GG", "gg"));
        Check.due("write", desk.write(1), text.length());
        Check.due("write", Check.out(desk), text);
        Check.due("again", desk.again(), text.length());
        Check.due("read", desk.read(0), 4);
        Check.due("write", desk.write(0), text.length());
        Check.due("write", Check.out(desk), text);
    }

    private static void wrongArguments() {
        Desk desk = new Desk();
        for (int bad : new int[] {-1, 2, Integer.MAX_VALUE, Integer.MIN_VALUE}) {
            Check.dueIndex("write", () -> desk.write(bad));
        }
        Check.due("out", desk.out(0), -1);
    }
}
