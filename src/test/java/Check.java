import java.nio.charset.StandardCharsets;

/** What all tests use: answers are compared, wrong ones are printed, and one wrong answer fails the test. */
final class Check {
    static final String FORMAT = "##fileformat=VCFv4.3\n";
    static final String HEAD = "#CHROM\tPOS\tID\tREF\tALT\tQUAL\tFILTER\tINFO";

    private static int wrong = 0;
    private static int asked = 0;

    private Check() {
    }

    interface Call {
        long answer();
    }

    interface Maker {
        Desk make();
    }

    static void due(String what, long got, long want) {
        asked++;
        if (got != want) {
            wrong++;
            System.out.println(what + " answered " + got + ", due is " + want);
        }
    }

    static void due(String what, String got, String want) {
        asked++;
        if (!want.equals(got)) {
            wrong++;
            System.out.println(what + " answered\n" + got + "\ndue is\n" + want);
        }
    }

    /** The name of the exception that a call throws, or its answer as a text. */
    static String outcome(Call call) {
        try {
            return Long.toString(call.answer());
        } catch (RuntimeException e) {
            return e.getClass().getSimpleName();
        }
    }

    static void dueIndex(String what, Call call) {
        due(what, outcome(call), "IndexOutOfBoundsException");
    }

    static void dueArgument(String what, Call call) {
        due(what, outcome(call), "IllegalArgumentException");
    }

    static void end(String test) {
        System.out.println(test + ": " + asked + " answers, " + wrong + " wrong");
        if (wrong != 0 || asked == 0) {
            System.exit(1);
        }
    }

    static int feed(Desk desk, String text) {
        byte[] octets = text.getBytes(StandardCharsets.ISO_8859_1);
        int size = 0;
        for (int from = 0; from < octets.length; from += 8) {
            int n = Math.min(8, octets.length - from);
            long packed = 0;
            for (int k = 0; k < n; k++) {
                packed |= (octets[from + k] & 255L) << (8 * k);
            }
            size = desk.feed(n, packed);
        }
        return size;
    }

    static int reference(Desk desk, String text) {
        feed(desk, text);
        return desk.reference();
    }

    static int read(Desk desk, int t, String text) {
        feed(desk, text);
        return desk.read(t);
    }

    /** A desk with a reference, and a table 0 with these samples (with a tab before each) and records. */
    static Desk desk(String reference, String samples, String... records) {
        Desk desk = new Desk();
        if (reference(desk, reference) < 1 || read(desk, 0, table(samples, records)) != records.length) {
            due("the desk of a test: fault at " + desk.place(), 1, 0);
        }
        return desk;
    }

    /** Records are written with blanks for the tabs. */
    static String table(String samples, String... records) {
        StringBuilder text = new StringBuilder(FORMAT).append(HEAD);
        if (!samples.isEmpty()) {
            text.append("\tFORMAT\t").append(samples.replace(' ', '\t'));
        }
        text.append('\n');
        for (String record : records) {
            text.append(record.replace(' ', '\t')).append('\n');
        }
        return text.toString();
    }

    static String out(Desk desk) {
        StringBuilder text = new StringBuilder();
        for (int octet = desk.out(0); octet != VariantDesk.NONE; octet = desk.out(text.length())) {
            text.append((char) octet);
        }
        return text.toString();
    }

    /** What OUT is, when it may be more than one object's calls can show: each that is made shows a part of it. */
    static String longOut(Maker maker) {
        StringBuilder text = new StringBuilder();
        Desk desk = maker.make();
        for (int octet = desk.out(0); octet != VariantDesk.NONE; octet = desk.out(text.length())) {
            text.append((char) octet);
            desk = desk.left() > 0 ? desk : maker.make();
        }
        return text.toString();
    }

    /** All records of a table as write tells them, with blanks for tabs and without the lines before. */
    static String records(Desk desk, int t) {
        int size = desk.write(t);
        String text = out(desk);
        due("the size that write answers", size, text.length());
        return recordsOf(text);
    }

    private static String recordsOf(String text) {
        int head = text.indexOf('\n', text.indexOf("#CHROM"));
        return text.substring(head + 1).replace('\t', ' ');
    }

    static void dueRecords(String what, Desk desk, int t, String... records) {
        due(what, records(desk, t), lines(records));
    }

    /** The same for a table with more octets than one object's calls can show. */
    static void dueLongRecords(String what, Maker maker, int t, String... records) {
        String text = longOut(() -> {
            Desk desk = maker.make();
            desk.write(t);
            return desk;
        });
        due(what, recordsOf(text), lines(records));
    }

    private static String lines(String... records) {
        StringBuilder text = new StringBuilder();
        for (String record : records) {
            text.append(record).append('\n');
        }
        return text.toString();
    }

    static String repeat(String text, int times) {
        StringBuilder all = new StringBuilder();
        for (int k = 0; k < times; k++) {
            all.append(text);
        }
        return all.toString();
    }
}
