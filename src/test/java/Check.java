import java.nio.charset.StandardCharsets;

/** What all tests use: answers are compared, wrong ones are printed, and one wrong answer fails the test. */
final class Check {
    static final String FORMAT = "##fileformat=VCFv4.3\n";
    static final String HEAD = "#CHROM\tPOS\tID\tREF\tALT\tQUAL\tFILTER\tINFO";

    private static int wrong = 0;
    private static int asked = 0;

    private Check() {
    }

    interface Call {
        long answer();
    }

    static void due(String what, long got, long want) {
        asked++;
        if (got != want) {
            wrong++;
            System.out.println(what + " answered " + got + ", due is " + want);
        }
    }

    static void due(String what, String got, String want) {
        asked++;
        if (!want.equals(got)) {
            wrong++;
            System.out.println(what + " answered\n" + got + "\ndue is\n" + want);
        }
    }

    /** The name of the exception that a call throws, or its answer as a text. */
    static String outcome(Call call) {
        try {
            return Long.toString(call.answer());
        } catch (RuntimeException e) {
            return e.getClass().getSimpleName();
        }
    }

    static void dueIndex(String what, Call call) {
        due(what, outcome(call), "IndexOutOfBoundsException");
    }

    static void dueArgument(String what, Call call) {
        due(what, outcome(call), "IllegalArgumentException");
    }

    static void end(String test) {
        System.out.println(test + ": " + asked + " answers, " + wrong + " wrong");
        if (wrong != 0 || asked == 0) {
            System.exit(1);
        }
    }

    static int feed(VariantDesk desk, String text) {
        byte[] octets = text.getBytes(StandardCharsets.ISO_8859_1);
        int size = 0;
        for (int from = 0; from < octets.length; from += 8) {
            int n = Math.min(8, octets.length - from);
            long packed = 0;
            for (int k = 0; k < n; k++) {
                packed |= (octets[from + k] & 255L) << (8 * k);
            }
            size = desk.feed(n, packed);
        }
        return size;
    }

    static int reference(VariantDesk desk, String text) {
        feed(desk, text);
        return desk.reference();
    }

    static int read(VariantDesk desk, int t, String text) {
        feed(desk, text);
        return desk.read(t);
    }

    /** A desk with a reference, and a table 0 with these samples (with a tab before each) and records. */
    static VariantDesk desk(String reference, String samples, String... records) {
        VariantDesk desk = new VariantDesk();
        if (reference(desk, reference) < 1 || read(desk, 0, table(samples, records)) != records.length) {
            due("the desk of a test: fault at " + desk.place(), 1, 0);
        }
        return desk;
    }

    /** Records are written with blanks for the tabs. */
    static String table(String samples, String... records) {
        StringBuilder text = new StringBuilder(FORMAT).append(HEAD);
        if (!samples.isEmpty()) {
            text.append("\tFORMAT\t").append(samples.replace(' ', '\t'));
        }
        text.append('\n');
        for (String record : records) {
            text.append(record.replace(' ', '\t')).append('\n');
        }
        return text.toString();
    }

    static String out(VariantDesk desk) {
        StringBuilder text = new StringBuilder();
        for (int k = 0; k < 9000 && desk.out(k) != VariantDesk.NONE; k++) {
            text.append((char) desk.out(k));
        }
        return text.toString();
    }

    /** All records of a table as write tells them, with blanks for tabs and without the lines before. */
    static String records(VariantDesk desk, int t) {
        int size = desk.write(t);
        String text = out(desk);
        due("the size that write answers", size, text.length());
        int head = text.indexOf('\n', text.indexOf("#CHROM"));
        return text.substring(head + 1).replace('\t', ' ');
    }

    static void dueRecords(String what, VariantDesk desk, int t, String... records) {
        StringBuilder want = new StringBuilder();
        for (String record : records) {
            want.append(record).append('\n');
        }
        due(what, records(desk, t), want.toString());
    }

    static String repeat(String text, int times) {
        StringBuilder all = new StringBuilder();
        for (int k = 0; k < times; k++) {
            all.append(text);
        }
        return all.toString();
    }
}
