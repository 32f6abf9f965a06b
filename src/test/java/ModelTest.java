import java.nio.charset.StandardCharsets;
import java.util.ArrayList;
import java.util.List;
import java.util.Random;

/**
 * Runs of calls with made-up texts and arguments, the same ones each time, on the class and on the model.
 * When the calls of an object end, another one gets all that changed something, and is looked at further.
 */
public final class ModelTest {
    private static final int RUNS = 800;
    private static final int STEPS = 40;
    private static final int MOST_FED = 400;
    private static final String[] LOOKS = {"sequence", "letter", "table", "record", "row", "call", "carried", "back", "same",
        "out", "place"};
    private static final String[] CHANGES = {"normalise", "split", "join", "sort", "merge", "apply", "apply", "apply", "write",
        "again", "read"};

    private final Random random;
    private final Model model = new Model();
    private final List<Ask> past = new ArrayList<>();
    private final StringBuilder story = new StringBuilder();
    private final List<String> names = new ArrayList<>();
    private final List<String> letters = new ArrayList<>();
    private final List<String> used = new ArrayList<>();
    private Desk desk = new Desk();
    private boolean agree = true;

    private interface Ask {
        long of(Desk desk);
    }

    private ModelTest(long seed) {
        random = new Random(seed);
    }

    public static void main(String[] args) {
        int bad = 0;
        for (int run = 0; run < RUNS && bad < 3; run++) {
            ModelTest test = new ModelTest(run);
            test.run();
            Check.due("run " + run + (test.agree ? "" : "\n" + test.story), test.agree ? 0 : 1, 0);
            bad += test.agree ? 0 : 1;
        }
        Check.end("ModelTest");
    }

    private void run() {
        feedReference(10);
        for (int k = 0; k < STEPS && agree; k++) {
            int kind = random.nextInt(12);
            if (kind < 3) {
                feedTable();
            } else if (kind == 3 && random.nextInt(6) == 0) {
                feedReference(3);
            } else if (kind < 6) {
                ask(LOOKS[random.nextInt(LOOKS.length)]);
            } else {
                ask(CHANGES[random.nextInt(CHANGES.length)]);
            }
            if (random.nextInt(8) == 0) {
                lookAtAll();
            }
        }
        lookAtAll();
    }

    private void feedReference(int rarely) {
        if (past.size() > MOST_FED / 2) {
            return;
        }
        String text = changed(referenceText(), rarely);
        while (!canFeed(text)) {
            text = changed(referenceText(), rarely);
        }
        feed(text);
        ask("reference");
    }

    private void feedTable() {
        String text = changed(tableText(), 4);
        if (canFeed(text)) {
            feed(text);
            ask("read");
        }
    }

    private int upTo(int n) {
        return random.nextInt(n + 1);
    }

    /** Mostly a small number, at times one that fits nowhere. */
    private int number(int most) {
        int kind = random.nextInt(40);
        return kind == 0 ? Integer.MIN_VALUE : kind == 1 ? Integer.MAX_VALUE : kind == 2 ? -1 - upTo(2)
                : kind == 3 ? most + 1 : upTo(most);
    }

    private String someLetters(int size, String of) {
        StringBuilder text = new StringBuilder();
        for (int k = 0; k < size; k++) {
            text.append(of.charAt(random.nextInt(of.length())));
        }
        return text.toString();
    }

    private String referenceText() {
        names.clear();
        letters.clear();
        used.clear();
        StringBuilder text = new StringBuilder();
        int count = 1 + upTo(random.nextInt(5) == 0 ? 8 : 2);
        for (int s = 0; s < count; s++) {
            String name = someLetters(1 + upTo(random.nextInt(8) == 0 ? 20 : 2), "ab_.9Z") + (s < 9 ? s : "");
            String of = new String[] {"A", "AC", "AAC", "ACGT", "ACGTNacgtn"}[upTo(4)];
            String line = someLetters(1 + upTo(random.nextInt(5) == 0 ? 200 : 40), of);
            names.add(name);
            letters.add(line.toUpperCase());
            text.append('>').append(name).append(upTo(3) == 0 ? " any thing" : "").append('\n');
            int width = 1 + upTo(line.length());
            for (int from = 0; from < line.length(); from += width) {
                text.append(line, from, Math.min(line.length(), from + width)).append('\n');
            }
        }
        return text.toString();
    }

    private String tableText() {
        StringBuilder text = new StringBuilder(Check.FORMAT);
        text.append(upTo(5) == 0 ? "##x\n##y\tz\n" : "").append(Check.HEAD);
        int samples = upTo(5) == 0 ? 3 : upTo(2);
        text.append(samples > 0 ? "\tFORMAT" : "");
        for (int k = 0; k < samples; k++) {
            text.append('\t').append(someLetters(1 + upTo(2), "pqrst")).append(upTo(9) == 0 ? "" : k);
        }
        text.append('\n');
        int count = upTo(12) == 0 ? 15 + upTo(46) : upTo(7);
        int[] spot = {0, 1};
        for (int i = 0; i < count; i++) {
            text.append(recordLine(samples, spot)).append('\n');
        }
        return text.toString();
    }

    /** At times a record has the place and the rows of one before, so that there is something to merge. */
    private String recordLine(int samples, int[] spot) {
        String core = used.isEmpty() || upTo(2) > 0 ? newCore(spot) : used.get(random.nextInt(used.size()));
        used.add(core);
        String[] part = core.split(" ");
        int alts = part[3].equals(".") ? 0 : part[3].split(",").length;
        StringBuilder line = new StringBuilder();
        line.append(part[0]).append('\t').append(part[1]).append('\t');
        line.append(upTo(1) == 0 ? "." : someLetters(1 + upTo(upTo(9) == 0 ? 19 : 2), "i.;~")).append('\t');
        line.append(part[2]).append('\t').append(part[3]).append('\t');
        line.append(upTo(1) == 0 ? "." : String.valueOf(upTo(999999) / (1 + upTo(999999)))).append('\t');
        line.append(upTo(1) == 0 ? "." : "PASS").append("\t.").append(samples > 0 ? "\tGT" : "");
        for (int k = 0; k < samples; k++) {
            line.append('\t').append(callOf(alts));
            line.append(upTo(1) == 0 ? "" : (upTo(1) == 0 ? "/" : "|") + callOf(alts));
        }
        return line.toString();
    }

    /** The spot is where the last record was: many stay there, so that there is something to join. */
    private String newCore(int[] spot) {
        if (upTo(2) > 0 || spot[0] >= names.size()) {
            spot[0] = random.nextInt(names.size());
            spot[1] = 1 + random.nextInt(letters.get(spot[0]).length());
        }
        String sequence = letters.get(spot[0]);
        int rest = Math.min(24, sequence.length() - spot[1] + 1);
        int size = 1 + upTo(Math.min(rest - 1, upTo(6) == 0 ? 23 : 3));
        String ref = sequence.substring(spot[1] - 1, spot[1] - 1 + size);
        List<String> alts = new ArrayList<>();
        for (int k = upTo(3); k > 0; k--) {
            String alt = altOf(ref);
            if (!alts.contains(alt) && !alt.equals(ref)) {
                alts.add(alt);
            }
        }
        return names.get(spot[0]) + " " + spot[1] + " " + ref + " " + (alts.isEmpty() ? "." : String.join(",", alts));
    }

    private String altOf(String ref) {
        String of = upTo(1) == 0 ? "AC" : "ACGTN";
        String alt = upTo(2) == 0 ? someLetters(1 + upTo(3), of) : upTo(1) == 0 ? ref + someLetters(1 + upTo(4), of)
                : ref.substring(0, 1 + upTo(ref.length() - 1));
        alt = upTo(2) == 0 ? alt + ref.substring(ref.length() / 2) : alt;
        return alt.length() > 24 ? alt.substring(0, 24) : alt;
    }

    private String callOf(int alts) {
        return upTo(3) == 0 ? "." : upTo(2) == 0 ? "0" : String.valueOf(upTo(alts));
    }

    /** At times a text with one octet changed, put in or left out, or cut off. */
    private String changed(String text, int rarely) {
        if (upTo(rarely) > 0) {
            return text;
        }
        int at = random.nextInt(text.length());
        String octet = someLetters(1, "\n\t .,/|>#0129ACGTNax\u0001\u00fe");
        switch (upTo(3)) {
            case 0:
                return text.substring(0, at) + octet + text.substring(at + 1);
            case 1:
                return text.substring(0, at) + octet + text.substring(at);
            case 2:
                return text.substring(0, at) + text.substring(at + 1);
            default:
                return text.substring(0, at);
        }
    }

    /** Whether a text can be fed so that calls are left for all other steps, and to look at what comes of them. */
    private boolean canFeed(String text) {
        return past.size() + text.length() / 8 + 2 <= MOST_FED;
    }

    private void feed(String text) {
        byte[] octets = text.getBytes(StandardCharsets.ISO_8859_1);
        story.append("feed ").append(text).append('\n');
        for (int from = 0; from < octets.length; from += 8) {
            int n = Math.min(8, octets.length - from);
            long packed = 0;
            for (int k = 0; k < n; k++) {
                packed |= (octets[from + k] & 255L) << (8 * k);
            }
            long octetsThere = packed;
            change("feed " + n, d -> d.feed(n, octetsThere), () -> model.feed(n, octetsThere));
        }
    }

    /** A call that changes something is made again on each object that comes after. */
    private void change(String call, Ask got, Check.Call want) {
        compare(call, got, want);
        past.add(got);
    }

    private void compare(String call, Ask got, Check.Call want) {
        if (desk.left() == 0) {
            desk = deskOfThePast();
        }
        String answer = Check.outcome(() -> got.of(desk));
        String due = Check.outcome(want);
        if (!answer.equals(due) && agree) {
            agree = false;
            story.append(call).append(" answered ").append(answer).append(", due is ").append(due).append('\n');
        }
        if (agree && !call.startsWith("feed")) {
            story.append(call).append(' ').append(answer).append('\n');
        }
    }

    private Desk deskOfThePast() {
        Desk made = new Desk();
        for (Ask call : past) {
            Check.outcome(() -> call.of(made));
        }
        return made;
    }

    private void ask(String method) {
        int t = number(1);
        switch (method) {
            case "reference":
                change("reference", Desk::reference, model::reference);
                break;
            case "read":
                change("read " + t, d -> d.read(t), () -> model.read(t));
                break;
            case "normalise":
                change("normalise " + t, d -> d.normalise(t), () -> model.normalise(t));
                break;
            case "split":
                change("split " + t, d -> d.split(t), () -> model.split(t));
                break;
            case "join":
                change("join " + t, d -> d.join(t), () -> model.join(t));
                break;
            case "sort":
                change("sort " + t, d -> d.sort(t), () -> model.sort(t));
                break;
            case "merge":
                change("merge", Desk::merge, model::merge);
                break;
            case "write":
                change("write " + t, d -> d.write(t), () -> model.write(t));
                break;
            case "again":
                change("again", Desk::again, model::again);
                break;
            case "place":
                compare("place", Desk::place, () -> model.faultAt);
                break;
            default:
                askWithMore(method, t);
        }
    }

    private void askWithMore(String method, int t) {
        int a = number(7);
        int b = number(3);
        int c = number(method.equals("row") ? 24 : 3);
        int p = number(60) - upTo(10);
        String call = method + " " + t + " " + a + " " + b + " " + c + " " + p;
        switch (method) {
            case "sequence":
                compare(call, d -> d.sequence(a, b), () -> model.sequence(a, b));
                break;
            case "letter":
                compare(call, d -> d.letter(b, p), () -> model.letter(b, p));
                break;
            case "table":
                compare(call, d -> d.table(t, a), () -> model.table(t, a));
                break;
            case "record":
                compare(call, d -> d.record(t, a, b), () -> model.record(t, a, b));
                break;
            case "row":
                compare(call, d -> d.row(t, a, b, c), () -> model.row(t, a, b, c));
                break;
            case "call":
                compare(call, d -> d.call(t, a, b, c), () -> model.call(t, a, b, c));
                break;
            case "apply":
                askApply(t, upTo(3) == 0 ? b : 0, number(1), number(names.size() - 1));
                break;
            case "carried":
                compare(call, d -> d.carried(p), () -> model.carried(p));
                break;
            case "back":
                compare(call, d -> d.back(p), () -> model.back(p));
                break;
            case "same":
                int u = number(1);
                compare(call + " " + u, d -> d.same(t, a, u, b) ? 1 : 0, () -> model.same(t, a, u, b));
                break;
            default:
                compare(call, d -> d.out(p), () -> model.out(p));
        }
    }

    private void askApply(int t, int sample, int which, int s) {
        String call = "apply " + t + " " + sample + " " + which + " " + s;
        change(call, d -> d.apply(t, sample, which, s), () -> model.apply(t, sample, which, s));
    }

    private void lookAtAll() {
        int size = story.length();
        compare("place", Desk::place, () -> model.faultAt);
        for (int k = -1; k <= model.out.length() && agree; k++) {
            int at = k;
            compare("out " + k, d -> d.out(at), () -> model.out(at));
        }
        for (int k = 0; k < 240 && agree; k++) {
            int at = k;
            compare("carried " + k, d -> d.carried(at), () -> model.carried(at));
            compare("back " + k, d -> d.back(at), () -> model.back(at));
        }
        for (int s = 0; s < names.size() && agree; s++) {
            for (int k = -2; k < 60; k++) {
                int at = k;
                int which = s;
                compare("letter " + s + " " + k, d -> d.letter(which, at), () -> model.letter(which, at));
                compare("sequence " + s + " " + k, d -> d.sequence(which, at), () -> model.sequence(which, at));
            }
        }
        for (int t = 0; t < 2 && agree; t++) {
            lookAtTable(t);
        }
        if (agree) {
            story.setLength(size);
        }
    }

    private void lookAtTable(int t) {
        for (int k = -1; k < 6; k++) {
            int what = k;
            compare("table " + t + " " + k, d -> d.table(t, what), () -> model.table(t, what));
        }
        int size = model.table(t, 0);
        for (int n = 0; n <= size && agree; n++) {
            int i = n;
            for (int k = -1; k < 7; k++) {
                int what = k;
                compare("record " + t + " " + i + " " + k, d -> d.record(t, i, what), () -> model.record(t, i, what));
                compare("same " + t + " " + i + " " + k, d -> d.same(t, i, t, what) ? 1 : 0, () -> model.same(t, i, t, what));
                for (int sample = 0; sample < 4; sample++) {
                    int s = sample;
                    compare("call " + t + " " + i + " " + s + " " + k, d -> d.call(t, i, s, what), () -> model.call(t, i, s, what));
                }
            }
            for (int row = 0; i < size && row <= model.record(t, i, 2); row++) {
                for (int k = -2; k < 26; k++) {
                    int r = row;
                    int at = k;
                    compare("row " + t + " " + i + " " + r + " " + k, d -> d.row(t, i, r, at), () -> model.row(t, i, r, at));
                }
            }
        }
    }
}
