/** The edges of THE TAPE and of OUT: promises 2 (feed), 22 (out) and 23 (again). */
public final class TapeEdgeTest {
    private static final int[] NO_SIZES = {Integer.MIN_VALUE, -8, -1, 0, 9, 10, 16, 64, Integer.MAX_VALUE};
    private static final String REFERENCE = ">a\nACGT\n";

    public static void main(String[] args) {
        oneToEightOctets();
        neitherOneNorEight();
        theLowestFirst();
        octetsBehindTheNthDoNotCount();
        everyOctetIsKept();
        exactly8000();
        moreThan8000();
        bothAtOnce();
        usedUpByReference();
        usedUpByRead();
        notUsedUpByReadOfNoTable();
        outOfANewObject();
        outHasAFirstAndALastOctet();
        outHas8000();
        aShorterOut();
        againWithNothing();
        againInsteadOfWhatIsThere();
        againTwice();
        Check.end("TapeEdgeTest");
    }

    private static void oneToEightOctets() {
        for (int n = 1; n <= 8; n++) {
            Desk desk = new Desk();
            Check.due("feed of " + n, desk.feed(n, -1), n);
            Check.due("feed behind " + n, desk.feed(n, 0), 2 * n);
        }
    }

    private static void neitherOneNorEight() {
        for (int n : NO_SIZES) {
            Desk desk = new Desk();
            desk.feed(3, 0);
            Check.dueArgument("feed of " + n, () -> desk.feed(n, 0));
            Check.due("the size after feed of " + n, desk.feed(1, 0), 4);
        }
    }

    private static void theLowestFirst() {
        Desk desk = new Desk();
        desk.feed(8, 0x676665646362613eL);
        desk.feed(3, 0x0a410aL);
        Check.due("reference", desk.reference(), 1);
        for (int k = 0; k < 7; k++) {
            Check.due("octet " + k + " of the name", desk.letter(0, -k), 'a' + k);
        }
    }

    private static void octetsBehindTheNthDoNotCount() {
        for (int n = 1; n < 8; n++) {
            Desk desk = new Desk();
            String name = "abcdefg".substring(0, n);
            desk.feed(1, '>');
            long octets = 0x2121212121212121L << (8 * n);
            for (int k = 0; k < n; k++) {
                octets |= (long) name.charAt(k) << (8 * k);
            }
            Check.due("feed of " + n, desk.feed(n, octets), n + 1);
            desk.feed(3, 0x0a410aL);
            Check.due("reference", desk.reference(), 1);
            Check.due("octets of the name", desk.sequence(0, 3), n);
        }
    }

    /** Octets above 127, too: in a LINE that begins with ## all of them can stand. */
    private static void everyOctetIsKept() {
        StringBuilder octets = new StringBuilder();
        for (int octet = 0; octet < 256; octet++) {
            octets.append(octet == '\n' ? "" : String.valueOf((char) octet));
        }
        Desk desk = new Desk();
        Check.due("read", Check.read(desk, 0, Check.FORMAT + "##" + octets + "\n" + Check.HEAD + "\n"), 0);
        for (int octet = 128; octet < 256; octet++) {
            Check.due("a name with octet " + octet, Check.reference(desk, ">a" + (char) octet + "\nA\n"), -2);
        }
    }

    private static void exactly8000() {
        for (int n = 1; n <= 8; n++) {
            Desk desk = Big.onTape(8000 - n);
            Check.due("feed of the last " + n, desk.feed(n, 0), 8000);
            Check.dueArgument("feed of one more", () -> desk.feed(1, 0));
        }
    }

    private static void moreThan8000() {
        Desk desk = Big.onTape(7995);
        for (int n = 6; n <= 8; n++) {
            int size = n;
            Check.dueArgument("feed of " + n + " behind 7995", () -> desk.feed(size, 0));
        }
        Check.due("nothing came on the tape", desk.feed(1, '\n'), 7996);
        Desk full = Big.onTape(8000);
        for (int n = 1; n <= 8; n++) {
            int size = n;
            Check.dueArgument("feed of " + n + " behind 8000", () -> full.feed(size, 0));
        }
        Check.due("the tape is as it was", full.read(1), 60);
        Check.due("then it can be fed", full.feed(8, 0), 8);
    }

    private static void bothAtOnce() {
        Desk desk = Big.onTape(8000);
        for (int n : NO_SIZES) {
            Check.dueArgument("feed of " + n + " behind 8000", () -> desk.feed(n, 0));
        }
    }

    private static void usedUpByReference() {
        Desk desk = new Desk();
        Check.due("reference", Check.reference(desk, REFERENCE), 1);
        Check.due("feed", desk.feed(1, '>'), 1);
        Check.due("reference of the rest", desk.reference(), -1);
        Check.due("feed behind a fault", desk.feed(2, 0), 2);
        Check.due("fault", desk.reference(), -2);
        Check.due("a tape without octets", desk.reference(), -1);
        Check.due("place", desk.place(), 0);
    }

    private static void usedUpByRead() {
        Desk desk = new Desk();
        Check.due("read", Check.read(desk, 1, Check.table("")), 0);
        Check.due("feed", desk.feed(1, '#'), 1);
        Check.due("read of the rest", desk.read(0), -1);
        Check.due("feed behind a fault", desk.feed(2, 0x0a0aL), 2);
        Check.due("fault", desk.read(0), -2);
        Check.due("a tape without octets", desk.read(1), -1);
        Check.due("place", desk.place(), 0);
    }

    private static void notUsedUpByReadOfNoTable() {
        for (int t : new int[] {Integer.MIN_VALUE, -1, 2, Integer.MAX_VALUE}) {
            Desk desk = new Desk();
            int size = Check.feed(desk, Check.FORMAT + Check.HEAD);
            Check.dueIndex("read of table " + t, () -> desk.read(t));
            Check.due("the tape stays", desk.feed(1, '\n'), size + 1);
            Check.due("and can be read", desk.read(0), 0);
        }
    }

    private static void outOfANewObject() {
        for (int k : new int[] {Integer.MIN_VALUE, -1, 0, 1, 7999, 8000, Integer.MAX_VALUE}) {
            Check.due("out " + k + " of a new object", new Desk().out(k), -1);
        }
    }

    private static void outHasAFirstAndALastOctet() {
        Desk desk = Check.desk(REFERENCE, "p");
        desk.apply(0, 0, 0, 0);
        Check.due("the first one", desk.out(0), 'A');
        Check.due("the last one", desk.out(3), 'T');
        for (int k : new int[] {Integer.MIN_VALUE, -4, -1, 4, 8000, Integer.MAX_VALUE}) {
            Check.due("out " + k, desk.out(k), -1);
        }
    }

    private static void outHas8000() {
        Desk desk = Big.onTape(8000);
        Check.due("the first one", desk.out(0), '#');
        Check.due("the last one", desk.out(7999), '\n');
        Check.due("the one before", desk.out(7998), '.');
        Check.due("the one behind", desk.out(8000), -1);
    }

    private static void aShorterOut() {
        Desk desk = Check.desk(REFERENCE, "p");
        desk.write(0);
        Check.due("octet 4 of a text", desk.out(4), 'l');
        desk.apply(0, 0, 0, 0);
        Check.due("octet 3 of the letters", desk.out(3), 'T');
        Check.due("no octet of the text before", desk.out(4), -1);
        Check.due("again", desk.again(), 4);
    }

    private static void againWithNothing() {
        Desk desk = new Desk();
        desk.feed(8, 0);
        Check.due("again", desk.again(), 0);
        Check.due("what was on the tape is gone", desk.feed(1, '>'), 1);
    }

    private static void againInsteadOfWhatIsThere() {
        Desk desk = Check.desk(REFERENCE, "p");
        desk.write(0);
        Check.feed(desk, Check.repeat("x", 100));
        Check.due("again", desk.again(), 69);
        Check.due("out stays", Check.out(desk), Check.table("p"));
        Check.due("read", desk.read(1), 0);
        Check.due("samples", desk.table(1, 1), 1);
    }

    private static void againTwice() {
        Desk desk = Check.desk(REFERENCE, "p");
        desk.write(0);
        Check.due("again", desk.again(), 69);
        Check.due("and again: it does not come behind", desk.again(), 69);
        Check.due("what is fed does", desk.feed(1, '\n'), 70);
        Check.due("read", desk.read(1), -3);
        Check.due("place", desk.place(), 69);
        Check.due("again from the same out", desk.again(), 69);
        Check.due("read", desk.read(1), 0);
    }
}
