import java.util.ArrayList;
import java.util.Arrays;
import java.util.List;

/** The document once more, as plainly as Java's texts and lists allow, to be compared with the class. */
final class Model {
    private static final class Fault extends RuntimeException {
        private static final long serialVersionUID = 1L;
        final int number;
        final int at;

        Fault(int number, int at) {
            this.number = number;
            this.at = at;
        }
    }

    private static final class Seq {
        String name;
        String letters = "";
        int first;
        int width;
    }

    private static final class Rec {
        int seq;
        int place;
        String id;
        List<String> rows = new ArrayList<>();
        int quality;
        boolean passed;
        List<String> calls = new ArrayList<>();

        Rec copy() {
            Rec copy = new Rec();
            copy.seq = seq;
            copy.place = place;
            copy.id = id;
            copy.rows.addAll(rows);
            copy.quality = quality;
            copy.passed = passed;
            copy.calls.addAll(calls);
            return copy;
        }

        int call(int sample, int c) {
            String[] parts = calls.get(sample).split("[/|]");
            return c >= parts.length || parts[c].equals(".") ? -1 : Integer.parseInt(parts[c]);
        }

        int count(int sample) {
            return calls.get(sample).split("[/|]").length;
        }

        boolean phased(int sample) {
            return calls.get(sample).contains("|");
        }
    }

    private static final class Tab {
        List<String> names = new ArrayList<>();
        List<Rec> recs = new ArrayList<>();
    }

    String tape = "";
    String out = "";
    int faultAt = -1;
    private List<Seq> seqs = new ArrayList<>();
    private final Tab[] tabs = {new Tab(), new Tab()};
    private int[] carried = {};
    private int[] back = {};

    int feed(int n, long octets) {
        if (n < 1 || n > 8 || tape.length() + n > 8000) {
            throw new IllegalArgumentException();
        }
        for (int k = 0; k < n; k++) {
            tape += (char) (octets >>> (8 * k) & 255);
        }
        return tape.length();
    }

    int reference() {
        String text = tape;
        tape = "";
        try {
            seqs = sequences(text);
        } catch (Fault f) {
            faultAt = f.at;
            return -f.number;
        }
        tabs[0] = new Tab();
        tabs[1] = new Tab();
        carried = new int[0];
        back = new int[0];
        return seqs.size();
    }

    private static char at(String text, int p) {
        if (p >= text.length()) {
            throw new Fault(1, text.length());
        }
        return text.charAt(p);
    }

    private static void need(boolean fine, int number, int at) {
        if (!fine) {
            throw new Fault(number, at);
        }
    }

    private static List<Seq> sequences(String text) {
        List<Seq> all = new ArrayList<>();
        int total = 0;
        int p = 0;
        need(at(text, 0) == '>', 2, 0);
        while (p < text.length()) {
            need(all.size() < 8, 3, p);
            Seq seq = new Seq();
            int start = ++p;
            while (String.valueOf(at(text, p)).matches("[A-Za-z0-9_.]")) {
                need(p - start < 20, 3, p);
                p++;
            }
            need(p > start, 2, p);
            seq.name = text.substring(start, p);
            if (at(text, p) == ' ') {
                while (at(text, p) >= 32 && at(text, p) <= 126) {
                    p++;
                }
            }
            need(at(text, p) == '\n', 2, p);
            for (Seq before : all) {
                need(!before.name.equals(seq.name), 4, start);
            }
            seq.first = ++p;
            int last = 0;
            while (seq.width == 0 || p < text.length() && text.charAt(p) != '>') {
                int line = 0;
                while ("ACGTNacgtn".indexOf(at(text, p)) >= 0) {
                    need(total < 3000, 3, p);
                    need(seq.width == 0 || line < seq.width && (line > 0 || last == seq.width), 5, p);
                    seq.letters += Character.toUpperCase(text.charAt(p));
                    total++;
                    line++;
                    p++;
                }
                need(line > 0 && at(text, p) == '\n', 2, p);
                p++;
                last = line;
                seq.width = seq.width == 0 ? line : seq.width;
            }
            all.add(seq);
        }
        return all;
    }

    int read(int t) {
        tab(t);
        String text = tape;
        tape = "";
        try {
            tabs[t] = tableOf(text);
        } catch (Fault f) {
            faultAt = f.at;
            return -f.number;
        }
        return tabs[t].recs.size();
    }

    private static String lineAt(String text, int p) {
        int end = text.indexOf('\n', p);
        need(end >= 0, 1, text.length());
        return text.substring(p, end);
    }

    private Tab tableOf(String text) {
        Tab tab = new Tab();
        String line = lineAt(text, 0);
        need(line.equals("##fileformat=VCFv4.3"), 2, 0);
        int p = line.length() + 1;
        line = lineAt(text, p);
        while (line.startsWith("##")) {
            p += line.length() + 1;
            line = lineAt(text, p);
        }
        String word = "[!-~]{1,20}";
        String head = "#CHROM\tPOS\tID\tREF\tALT\tQUAL\tFILTER\tINFO";
        need(line.matches(head + "(\tFORMAT(\t" + word + "){1,3})?"), 2, p);
        String[] heads = line.split("\t", -1);
        for (int c = 9; c < heads.length; c++) {
            need(!tab.names.contains(heads[c]), 2, p);
            tab.names.add(heads[c]);
        }
        p += line.length() + 1;
        while (p < text.length()) {
            line = lineAt(text, p);
            need(tab.recs.size() < 60, 6, p);
            String[] columns = line.split("\t", -1);
            need(columns.length == heads.length, 3, p);
            tab.recs.add(recordOf(columns, p));
            p += line.length() + 1;
        }
        return tab;
    }

    private Rec recordOf(String[] columns, int start) {
        int[] at = new int[columns.length];
        at[0] = start;
        for (int c = 1; c < columns.length; c++) {
            at[c] = at[c - 1] + columns[c - 1].length() + 1;
        }
        Rec rec = new Rec();
        rec.seq = -1;
        for (int s = 0; s < seqs.size(); s++) {
            rec.seq = seqs.get(s).name.equals(columns[0]) ? s : rec.seq;
        }
        need(rec.seq >= 0, 4, at[0]);
        String letters = seqs.get(rec.seq).letters;
        need(columns[1].matches("[1-9][0-9]{0,5}") && Integer.parseInt(columns[1]) <= letters.length(), 4, at[1]);
        rec.place = Integer.parseInt(columns[1]);
        need(columns[2].matches("[!-~]{1,20}"), 4, at[2]);
        rec.id = columns[2].equals(".") ? "" : columns[2];
        need(columns[3].matches("[ACGTNacgtn]{1,24}"), 4, at[3]);
        rec.rows.add(columns[3].toUpperCase());
        need(letters.startsWith(rec.rows.get(0), rec.place - 1), 5, at[3]);
        if (!columns[4].equals(".")) {
            for (String alt : columns[4].split(",", -1)) {
                need(alt.matches("[ACGTNacgtn]{1,24}") && !rec.rows.contains(alt.toUpperCase()), 4, at[4]);
                rec.rows.add(alt.toUpperCase());
            }
        }
        need(rec.rows.size() <= 4, 4, at[4]);
        need(columns[5].matches("\\.|0|[1-9][0-9]{0,5}"), 4, at[5]);
        rec.quality = columns[5].equals(".") ? -1 : Integer.parseInt(columns[5]);
        need(columns[6].matches("PASS|\\."), 4, at[6]);
        rec.passed = columns[6].equals("PASS");
        need(columns[7].equals("."), 4, at[7]);
        need(columns.length == 8 || columns[8].equals("GT"), 4, at[columns.length == 8 ? 0 : 8]);
        for (int c = 9; c < columns.length; c++) {
            String call = "(\\.|[0-" + (rec.rows.size() - 1) + "])";
            need(columns[c].matches(call + "([/|]" + call + ")?"), 4, at[c]);
            rec.calls.add(columns[c]);
        }
        return rec;
    }

    private static <T> T get(List<T> list, int i) {
        if (i < 0 || i >= list.size()) {
            throw new IndexOutOfBoundsException();
        }
        return list.get(i);
    }

    private static int pick(int what, int... values) {
        if (what < 0 || what >= values.length) {
            throw new IndexOutOfBoundsException();
        }
        return values[what];
    }

    private Tab tab(int t) {
        return get(Arrays.asList(tabs), t);
    }

    int sequence(int s, int what) {
        Seq seq = get(seqs, s);
        return pick(what, seq.letters.length(), seq.first, seq.width, seq.name.length());
    }

    int letter(int s, int place) {
        Seq seq = get(seqs, s);
        String text = place > 0 ? seq.letters : seq.name;
        long k = place > 0 ? place - 1L : -(long) place;
        if (k >= text.length()) {
            throw new IndexOutOfBoundsException();
        }
        return text.charAt((int) k);
    }

    int table(int t, int what) {
        Tab tab = tab(t);
        int[] names = {-1, -1, -1};
        for (int k = 0; k < tab.names.size(); k++) {
            names[k] = tab.names.get(k).length();
        }
        return pick(what, tab.recs.size(), tab.names.size(), names[0], names[1], names[2]);
    }

    int record(int t, int i, int what) {
        Rec rec = get(tab(t).recs, i);
        return pick(what, rec.seq, rec.place, rec.rows.size() - 1, rec.quality, rec.passed ? 1 : 0, rec.id.length());
    }

    int row(int t, int i, int row, int k) {
        String text = get(get(tab(t).recs, i).rows, row);
        return k == -1 ? text.length() : k < 0 || k >= text.length() ? -1 : text.charAt(k);
    }

    int call(int t, int i, int sample, int what) {
        Rec rec = get(tab(t).recs, i);
        get(rec.calls, sample);
        return pick(what, rec.call(sample, 0), rec.call(sample, 1), rec.count(sample), rec.phased(sample) ? 1 : 0);
    }

    int normalise(int t) {
        int others = 0;
        for (Rec rec : tab(t).recs) {
            String before = rec.place + " " + rec.rows;
            if (rec.rows.size() > 1) {
                makeNormal(rec);
            }
            others += before.equals(rec.place + " " + rec.rows) ? 0 : 1;
        }
        return others;
    }

    private void makeNormal(Rec rec) {
        String letters = seqs.get(rec.seq).letters;
        List<String> rows = rec.rows;
        while (rows.stream().map(r -> r.charAt(r.length() - 1)).distinct().count() == 1
                && (rows.stream().allMatch(r -> r.length() >= 2) || rec.place > 1)) {
            if (rows.stream().anyMatch(r -> r.length() == 1)) {
                String before = letters.substring(rec.place - 2, rec.place - 1);
                rows.replaceAll(r -> before + r);
                rec.place--;
            }
            rows.replaceAll(r -> r.substring(0, r.length() - 1));
        }
        while (rows.stream().allMatch(r -> r.length() >= 2) && rows.stream().map(r -> r.charAt(0)).distinct().count() == 1) {
            rows.replaceAll(r -> r.substring(1));
            rec.place++;
        }
    }

    int split(int t) {
        List<Rec> parts = new ArrayList<>();
        for (Rec rec : tab(t).recs) {
            if (rec.rows.size() <= 2) {
                parts.add(rec);
            }
            for (int alt = 1; rec.rows.size() > 2 && alt < rec.rows.size(); alt++) {
                Rec part = rec.copy();
                part.rows = new ArrayList<>(List.of(rec.rows.get(0), rec.rows.get(alt)));
                int own = alt;
                part.calls.replaceAll(c -> c.replaceAll("[1-3]", "x$0x").replace("x" + own + "x", "1").replaceAll("x.x", "0"));
                parts.add(part);
            }
        }
        if (parts.size() > 60) {
            return -1;
        }
        tabs[t].recs = parts;
        return parts.size();
    }

    int join(int t) {
        List<Rec> joined = new ArrayList<>();
        for (Rec rec : tab(t).recs) {
            Rec last = joined.isEmpty() ? null : joined.get(joined.size() - 1);
            Rec both = last == null ? null : joined(last, rec);
            if (both == null) {
                joined.add(rec);
            } else {
                joined.set(joined.size() - 1, both);
            }
        }
        tabs[t].recs = joined;
        return joined.size();
    }

    private static Rec joined(Rec one, Rec two) {
        if (one.rows.size() < 2 || two.rows.size() < 2 || one.seq != two.seq || one.place != two.place) {
            return null;
        }
        Rec both = one.copy();
        String ref = one.rows.get(0);
        String other = two.rows.get(0);
        String longer = ref.length() >= other.length() ? ref : other;
        both.rows.replaceAll(r -> r + longer.substring(ref.length()));
        int[] number = new int[4];
        for (int row = 1; row < two.rows.size(); row++) {
            String alt = two.rows.get(row) + longer.substring(other.length());
            if (!both.rows.contains(alt)) {
                both.rows.add(alt);
            }
            number[row] = both.rows.indexOf(alt);
        }
        if (both.rows.size() > 4 || both.rows.stream().anyMatch(r -> r.length() > 24)) {
            return null;
        }
        for (int sample = 0; sample < one.calls.size(); sample++) {
            StringBuilder calls = new StringBuilder();
            for (int c = 0; c < Math.max(one.count(sample), two.count(sample)); c++) {
                int a = one.call(sample, c);
                int b = two.call(sample, c);
                boolean phased = one.count(sample) == 1 ? two.phased(sample)
                        : two.count(sample) == 1 ? one.phased(sample) : one.phased(sample) && two.phased(sample);
                calls.append(c == 0 ? "" : phased ? "|" : "/");
                calls.append(a > 0 ? "" + a : b > 0 ? "" + number[b] : a == 0 || b == 0 ? "0" : ".");
            }
            both.calls.set(sample, calls.toString());
        }
        return both;
    }

    private static List<Rec> sorted(List<Rec> recs) {
        List<Rec> sorted = new ArrayList<>(recs);
        sorted.sort((a, b) -> a.seq != b.seq ? a.seq - b.seq : a.place - b.place);
        return sorted;
    }

    int sort(int t) {
        List<Rec> sorted = sorted(tab(t).recs);
        int moved = 0;
        for (int i = 0; i < sorted.size(); i++) {
            moved += sorted.get(i) == tabs[t].recs.get(i) ? 0 : 1;
        }
        tabs[t].recs = sorted;
        return moved;
    }

    int merge() {
        Tab both = new Tab();
        both.names.addAll(tabs[0].names);
        both.names.addAll(tabs[1].names);
        if (both.names.size() > 3 || both.names.stream().distinct().count() < both.names.size()) {
            return -1;
        }
        List<Rec> own = sorted(tabs[0].recs);
        List<Rec> free = new ArrayList<>(own);
        List<Rec> put = new ArrayList<>();
        List<Rec> merged = new ArrayList<>();
        for (Rec rec : own) {
            Rec copy = rec.copy();
            tabs[1].names.forEach(n -> copy.calls.add("."));
            merged.add(copy);
        }
        for (Rec rec : sorted(tabs[1].recs)) {
            Rec like = null;
            for (int k = free.size() - 1; k >= 0; k--) {
                Rec r = free.get(k);
                like = r.seq == rec.seq && r.place == rec.place && r.rows.equals(rec.rows) ? r : like;
            }
            if (like == null) {
                Rec copy = rec.copy();
                tabs[0].names.forEach(n -> copy.calls.add(0, "."));
                int at = merged.size();
                while (at > 0 && (merged.get(at - 1).seq > rec.seq || merged.get(at - 1).seq == rec.seq && merged.get(at - 1).place > rec.place)) {
                    at--;
                }
                merged.add(at, copy);
                own.add(at, copy);
            } else {
                free.remove(like);
                put.add(rec);
                Rec into = merged.get(own.indexOf(like));
                for (int k = 0; k < tabs[1].names.size(); k++) {
                    into.calls.set(tabs[0].names.size() + k, rec.calls.get(k));
                }
            }
        }
        if (merged.size() > 60) {
            return -1;
        }
        both.recs = merged;
        tabs[0] = both;
        tabs[1] = new Tab();
        return put.size();
    }

    int apply(int t, int sample, int which, int s) {
        Tab tab = tab(t);
        get(tab.names, sample);
        pick(which, 0, 0);
        String letters = get(seqs, s).letters;
        Rec[] cover = new Rec[letters.length() + 2];
        for (Rec rec : tab.recs) {
            for (int k = 0; rec.seq == s && rec.call(sample, which) > 0 && k < rec.rows.get(0).length(); k++) {
                if (cover[rec.place + k] != null) {
                    return -1;
                }
                cover[rec.place + k] = rec;
            }
        }
        StringBuilder made = new StringBuilder();
        List<Integer> from = new ArrayList<>();
        carried = new int[letters.length()];
        for (int place = 1; place <= letters.length(); place++) {
            Rec rec = cover[place];
            String row = rec == null ? letters.substring(place - 1, place) : rec.rows.get(rec.call(sample, which));
            int refSize = rec == null ? 1 : rec.rows.get(0).length();
            for (int k = 0; k < Math.max(row.length(), refSize); k++) {
                if (k < refSize) {
                    carried[place + k - 1] = k < row.length() ? made.length() + 1 : -1;
                }
                if (k < row.length()) {
                    made.append(row.charAt(k));
                    from.add(k < refSize ? place + k : -1);
                }
            }
            place += refSize - 1;
        }
        out = made.toString();
        back = from.stream().mapToInt(k -> k).toArray();
        return out.length();
    }

    int carried(int place) {
        return place < 1 || place > carried.length ? -1 : carried[place - 1];
    }

    int back(int place) {
        return place < 1 || place > back.length ? -1 : back[place - 1];
    }

    int same(int t, int i, int u, int j) {
        Rec one = get(tab(t).recs, i);
        Rec two = get(tab(u).recs, j);
        return one.rows.size() == 2 && two.rows.size() == 2 && one.seq == two.seq && made(one).equals(made(two)) ? 1 : 0;
    }

    private String made(Rec rec) {
        String letters = seqs.get(rec.seq).letters;
        int end = rec.place - 1 + rec.rows.get(0).length();
        return letters.substring(0, rec.place - 1) + rec.rows.get(1) + letters.substring(end);
    }

    int write(int t) {
        StringBuilder text = new StringBuilder("##fileformat=VCFv4.3\n#CHROM\tPOS\tID\tREF\tALT\tQUAL\tFILTER\tINFO");
        text.append(tab(t).names.isEmpty() ? "" : "\tFORMAT\t" + String.join("\t", tabs[t].names)).append('\n');
        for (Rec rec : tabs[t].recs) {
            List<String> columns = new ArrayList<>(List.of(seqs.get(rec.seq).name, "" + rec.place,
                    rec.id.isEmpty() ? "." : rec.id, rec.rows.get(0),
                    rec.rows.size() == 1 ? "." : String.join(",", rec.rows.subList(1, rec.rows.size())),
                    rec.quality == -1 ? "." : "" + rec.quality, rec.passed ? "PASS" : ".", "."));
            if (!tabs[t].names.isEmpty()) {
                columns.add("GT");
                columns.addAll(rec.calls);
            }
            text.append(String.join("\t", columns)).append('\n');
        }
        if (text.length() > 8000) {
            return -1;
        }
        out = text.toString();
        return out.length();
    }

    int out(int k) {
        return k < 0 || k >= out.length() ? -1 : out.charAt(k);
    }

    int again() {
        tape = out;
        return tape.length();
    }
}
