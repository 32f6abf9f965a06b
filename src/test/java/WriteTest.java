import java.util.Arrays;

/** Promise 21 (write), and that what is written is read again as it was. */
public final class WriteTest {
    public static void main(String[] args) {
        ordinary();
        limit();
        wrongArguments();
        Check.end("WriteTest");
    }

    private static void ordinary() {
        VariantDesk desk = new VariantDesk();
        Check.due("an empty table", desk.write(1), 60);
        Check.due("an empty table", Check.out(desk), Check.table(""));
        String[] records = {"a 1 . A C,GG,T 0 PASS . GT 0|3 .", "Long.name_1 10 x;y.z C . 999999 . . GT ./. 0",
            "a 2 ... CG . . PASS . GT .|0 0/0", "a 10 1 C CT 100 . . GT 1/1 0|1"};
        desk = new VariantDesk();
        Check.reference(desk, ">a\nACGTACGTAC\n>Long.name_1\nACGTACGTAC\n");
        String text = Check.table("p q!", records);
        Check.read(desk, 1, text.replace(Check.FORMAT, Check.FORMAT + "##source=x\n").replace("GG", "gg"));
        Check.due("write", desk.write(1), text.length());
        Check.due("write", Check.out(desk), text);
        Check.due("again", desk.again(), text.length());
        Check.due("read", desk.read(0), 4);
        Check.due("write", desk.write(0), text.length());
        Check.due("write", Check.out(desk), text);
    }

    /** A text of 8000 octets can't be fed at once by 512 calls, so it comes from two tables. */
    private static void limit() {
        Check.due("write of 8000 octets", filled(17).write(0), 8000);
        VariantDesk desk = filled(18);
        Check.due("write of the other table", desk.write(1), 60);
        Check.due("write of 8001 octets", desk.write(0), -1);
        Check.due("out stays", Check.out(desk), Check.table(""));
        desk = filled(17);
        desk.write(0);
        Check.due("the last octet", desk.out(7999), 10);
        Check.due("behind it", desk.out(8000), -1);
        Check.due("again", desk.again(), 8000);
        Check.due("read", desk.read(1), 55);
    }

    /** 45 records of 144 octets, 9 of 146, and one of 129 and those of its ID: 7940 in all if that has 17. */
    private static VariantDesk filled(int idSize) {
        String name = "abcdefghijklmnopqrst";
        String as = Check.repeat("A", 23);
        String[] records = new String[55];
        for (int k = 0; k < 55; k++) {
            String id = Check.repeat("x", k < 45 ? 15 : k < 54 ? 17 : idSize);
            String alts = as + "C," + as + "T," + as.substring(1) + (k < 28 ? "G" : "N");
            records[k] = name + " 1 " + id + " " + as + "A " + alts + " . . .";
        }
        VariantDesk desk = Check.desk(">" + name + "\n" + as + as + "\n", "", Arrays.copyOf(records, 28));
        Check.due("read", Check.read(desk, 1, Check.table("", Arrays.copyOfRange(records, 28, 55))), 27);
        Check.due("merge", desk.merge(), 0);
        return desk;
    }

    private static void wrongArguments() {
        VariantDesk desk = new VariantDesk();
        for (int bad : new int[] {-1, 2, Integer.MAX_VALUE, Integer.MIN_VALUE}) {
            Check.dueIndex("write", () -> desk.write(bad));
        }
        Check.due("out", desk.out(0), -1);
    }
}
