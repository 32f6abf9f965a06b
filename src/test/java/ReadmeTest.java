import java.nio.charset.StandardCharsets;

/** The example of README.md, line by line. */
public final class ReadmeTest {
    private ReadmeTest() {
    }

    public static void main(String[] args) {
        smallest();
        whole();
        Check.end("ReadmeTest");
    }

    private static void smallest() {
        VariantDesk desk = new VariantDesk();
        Check.due("feed", desk.feed(8, 0x0a54474341_0a613eL), 8);
        Check.due("reference", desk.reference(), 1);
        Check.due("letter", desk.letter(0, 2), 'C');
    }

    private static void whole() {
        VariantDesk desk = new VariantDesk();
        feed(desk, ">chr1\nGGCACA\nCAT\n");
        Check.due("reference", desk.reference(), 1);
        feed(desk, "##fileformat=VCFv4.3\n"
                + "#CHROM\tPOS\tID\tREF\tALT\tQUAL\tFILTER\tINFO\tFORMAT\tann\n"
                + "chr1\t6\t.\tACA\tA\t30\tPASS\t.\tGT\t0|1\n");
        Check.due("read", desk.read(0), 1);
        Check.due("normalise", desk.normalise(0), 1);
        Check.due("record", desk.record(0, 0, 1), 2);
        Check.due("apply", desk.apply(0, 0, 1, 0), 7);
        Check.due("out", desk.out(2), 'C');
        Check.due("carried", desk.carried(3), VariantDesk.NONE);
        Check.due("carried", desk.carried(5), 3);
        Check.due("back", desk.back(3), 5);
        Check.due("write", desk.write(0), 103);
        Check.due("again", desk.again(), 103);
        Check.due("read", desk.read(1), 1);
        Check.due("same", desk.same(0, 0, 1, 0) ? 1 : 0, 1);
        feed(desk, "##fileformat=VCFv4.2\n");
        Check.due("read", desk.read(1), -2);
        Check.due("place", desk.place(), 0);
    }

    private static void feed(VariantDesk desk, String text) {
        byte[] octets = text.getBytes(StandardCharsets.ISO_8859_1);
        for (int from = 0; from < octets.length; from += 8) {
            int n = Math.min(8, octets.length - from);
            long packed = 0;
            for (int k = 0; k < n; k++) {
                packed |= (octets[from + k] & 255L) << (8 * k);
            }
            desk.feed(n, packed);
        }
    }
}
