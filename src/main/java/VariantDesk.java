/** Variants of sequences: a reference and two tables of records, read from and written to texts. */
public final class VariantDesk {
    public static final int NONE = -1;

    private static final int TEXT_LIMIT = 8000;
    private static final int SEQUENCE_LIMIT = 8;
    private static final int LETTER_LIMIT = 3000;
    private static final int NAME_LIMIT = 20;
    private static final int TABLES = 2;
    private static final int SAMPLE_LIMIT = 3;
    private static final int ENTRY_LIMIT = 60;
    private static final int ROW_LIMIT = 4;
    private static final int ROW_SIZE_LIMIT = 24;
    private static final int CALL_LIMIT = 2;
    private static final int QUALITY_LIMIT = 999999;

    private static final int TAB = 9;
    private static final int LINE_END = 10;
    private static final int BLANK = 32;

    private static final String FORMAT_LINE = "##fileformat=VCFv4.3";
    private static final String HEAD = "#CHROM\tPOS\tID\tREF\tALT\tQUAL\tFILTER\tINFO";
    private static final int HEAD_COLUMNS = 8;
    private static final int COLUMN_LIMIT = 12;

    private final Octets tape;
    private final Sheet[] sheets;
    private final Joiner joiner;
    private final Haplotype haplotype;
    private Octets text;
    private Octets spareText;
    private Genome genome;
    private Genome spareGenome;
    private Sheet spareSheet;
    private int faultPlace;

    public VariantDesk() {
        tape = new Octets();
        text = new Octets();
        spareText = new Octets();
        genome = new Genome();
        spareGenome = new Genome();
        sheets = new Sheet[TABLES];
        for (int t = 0; t < TABLES; t++) {
            sheets[t] = new Sheet();
        }
        spareSheet = new Sheet();
        joiner = new Joiner();
        haplotype = new Haplotype();
        faultPlace = NONE;
    }

    public int feed(int n, long octets) throws IllegalArgumentException {
        if (n < 1 || n > 8) {
            throw new IllegalArgumentException("1 to 8 octets can be fed");
        }
        if (tape.size + n > TEXT_LIMIT) {
            throw new IllegalArgumentException("the tape would be too long");
        }
        for (int k = 0; k < n; k++) {
            tape.add((int) (octets >> (8 * k)) & 255);
        }
        return tape.size;
    }

    public int reference() {
        GenomeReader reader = new GenomeReader(tape, spareGenome);
        boolean fine = reader.run();
        tape.clear();
        if (!fine) {
            faultPlace = reader.faultPlace;
            return -reader.fault;
        }
        Genome old = genome;
        genome = spareGenome;
        spareGenome = old;
        for (int t = 0; t < TABLES; t++) {
            sheets[t].clear();
        }
        haplotype.clear();
        return genome.count;
    }

    public int read(int table) throws IndexOutOfBoundsException {
        sheetAt(table);
        SheetReader reader = new SheetReader(tape, genome, spareSheet);
        boolean fine = reader.run();
        tape.clear();
        if (!fine) {
            faultPlace = reader.faultPlace;
            return -reader.fault;
        }
        useSpareSheet(table);
        return sheets[table].size;
    }

    public int place() {
        return faultPlace;
    }

    public int sequence(int s, int what) throws IndexOutOfBoundsException {
        checkSequence(s);
        switch (what) {
            case 0:
                return genome.size[s];
            case 1:
                return genome.textPlace[s];
            case 2:
                return genome.width[s];
            case 3:
                return genome.names.sizeOf(s);
            default:
                throw new IndexOutOfBoundsException("a sequence has no such number");
        }
    }

    public int letter(int s, int place) throws IndexOutOfBoundsException {
        checkSequence(s);
        int found = place > 0 ? genome.letterAt(s, place) : genome.names.octetAt(s, -place);
        if (found == NONE) {
            throw new IndexOutOfBoundsException("no such place or octet");
        }
        return found;
    }

    public int table(int t, int what) throws IndexOutOfBoundsException {
        Sheet sheet = sheetAt(t);
        if (what < 0 || what > 1 + SAMPLE_LIMIT) {
            throw new IndexOutOfBoundsException("a table has no such number");
        }
        if (what == 0) {
            return sheet.size;
        }
        if (what == 1) {
            return sheet.names.count;
        }
        return sheet.names.sizeOf(what - 2);
    }

    public int record(int t, int i, int what) throws IndexOutOfBoundsException {
        Entry entry = entryAt(t, i);
        switch (what) {
            case 0:
                return entry.sequence;
            case 1:
                return entry.place;
            case 2:
                return entry.rows - 1;
            case 3:
                return entry.quality;
            case 4:
                return entry.passed ? 1 : 0;
            case 5:
                return entry.idSize;
            default:
                throw new IndexOutOfBoundsException("a record has no such number");
        }
    }

    public int row(int t, int i, int row, int k) throws IndexOutOfBoundsException {
        Entry entry = entryAt(t, i);
        if (row < 0 || row >= entry.rows) {
            throw new IndexOutOfBoundsException("no such row");
        }
        return k == -1 ? entry.rowSize[row] : entry.letterAt(row, k);
    }

    public int call(int t, int i, int sample, int what) throws IndexOutOfBoundsException {
        Entry entry = entryAt(t, i);
        checkSample(t, sample);
        switch (what) {
            case 0:
            case 1:
                return entry.callAt(sample, what);
            case 2:
                return entry.callCount[sample];
            case 3:
                return entry.phased[sample] ? 1 : 0;
            default:
                throw new IndexOutOfBoundsException("a sample has no such number");
        }
    }

    public int normalise(int t) throws IndexOutOfBoundsException {
        Sheet sheet = sheetAt(t);
        int others = 0;
        for (int i = 0; i < sheet.size; i++) {
            if (sheet.entries[i].makeNormal(genome)) {
                others++;
            }
        }
        return others;
    }

    public int split(int t) throws IndexOutOfBoundsException {
        Sheet sheet = sheetAt(t);
        if (sheet.sizeWhenSplit() > ENTRY_LIMIT) {
            return NONE;
        }
        spareSheet.takeSplit(sheet);
        useSpareSheet(t);
        return sheets[t].size;
    }

    public int join(int t) throws IndexOutOfBoundsException {
        Sheet sheet = sheetAt(t);
        sheet.joinAll(joiner);
        return sheet.size;
    }

    public int sort(int t) throws IndexOutOfBoundsException {
        return sheetAt(t).putInOrder();
    }

    public int merge() {
        Sheet sheet = sheets[0];
        Sheet other = sheets[1];
        if (!sheet.canTakeSamples(other)) {
            return NONE;
        }
        int pairs = sheet.pairWith(other);
        if (sheet.size + other.size - pairs > ENTRY_LIMIT) {
            return NONE;
        }
        sheet.takeAll(other);
        other.clear();
        sheet.putInOrder();
        return pairs;
    }

    public int apply(int t, int sample, int which, int s) throws IndexOutOfBoundsException {
        Sheet sheet = sheetAt(t);
        checkSample(t, sample);
        if (which < 0 || which >= CALL_LIMIT) {
            throw new IndexOutOfBoundsException("no such haplotype");
        }
        checkSequence(s);
        haplotype.choose(sheet, sample, which, s);
        if (haplotype.clashes(sheet)) {
            return NONE;
        }
        text.clear();
        haplotype.putOn(sheet, sample, which, genome, s, text);
        return text.size;
    }

    public int carried(int place) {
        return haplotype.carriedTo(place);
    }

    public int back(int place) {
        return haplotype.backTo(place);
    }

    public boolean same(int t, int i, int u, int j) throws IndexOutOfBoundsException {
        Entry one = entryAt(t, i);
        Entry other = entryAt(u, j);
        return one.meansSameAs(other, genome);
    }

    public int write(int t) throws IndexOutOfBoundsException {
        Sheet sheet = sheetAt(t);
        spareText.clear();
        sheet.writeTo(spareText, genome);
        if (spareText.tooLong) {
            return NONE;
        }
        Octets old = text;
        text = spareText;
        spareText = old;
        return text.size;
    }

    public int out(int k) {
        return text.at(k);
    }

    public int again() {
        tape.copyFrom(text);
        return tape.size;
    }

    private Sheet sheetAt(int t) {
        if (t < 0 || t >= TABLES) {
            throw new IndexOutOfBoundsException("no such table");
        }
        return sheets[t];
    }

    private Entry entryAt(int t, int i) {
        Sheet sheet = sheetAt(t);
        if (i < 0 || i >= sheet.size) {
            throw new IndexOutOfBoundsException("no such record");
        }
        return sheet.entries[i];
    }

    private void checkSample(int t, int sample) {
        if (sample < 0 || sample >= sheetAt(t).names.count) {
            throw new IndexOutOfBoundsException("no such sample");
        }
    }

    private void checkSequence(int s) {
        if (s < 0 || s >= genome.count) {
            throw new IndexOutOfBoundsException("no such sequence");
        }
    }

    private void useSpareSheet(int t) {
        Sheet old = sheets[t];
        sheets[t] = spareSheet;
        spareSheet = old;
    }

    /** The letter that an octet is read as, or NONE. */
    private static int letterOf(int octet) {
        switch (octet) {
            case 'A':
            case 'a':
                return 'A';
            case 'C':
            case 'c':
                return 'C';
            case 'G':
            case 'g':
                return 'G';
            case 'T':
            case 't':
                return 'T';
            case 'N':
            case 'n':
                return 'N';
            default:
                return NONE;
        }
    }

    /** A text of at most TEXT_LIMIT octets. */
    private static final class Octets {
        private final int[] octets = new int[TEXT_LIMIT];
        private int size;
        private boolean tooLong;

        void clear() {
            size = 0;
            tooLong = false;
        }

        void add(int octet) {
            if (size < TEXT_LIMIT) {
                octets[size] = octet;
                size++;
            } else {
                tooLong = true;
            }
        }

        void addText(String words) {
            for (int k = 0; k < words.length(); k++) {
                add(words.charAt(k));
            }
        }

        void addPart(int[] row, int from, int count) {
            for (int k = Math.max(0, from); k < from + count && k < row.length; k++) {
                add(row[k]);
            }
        }

        /** No number here has more than six digits. */
        void addNumber(int number) {
            for (int power = 100000; power > 0; power = power / 10) {
                if (number >= power || power == 1) {
                    add('0' + number / power % 10);
                }
            }
        }

        /** Where a number may be missing: a point stands for NONE. */
        void addNumberOrPoint(int number) {
            if (number == NONE) {
                add('.');
            } else {
                addNumber(number);
            }
        }

        int at(int k) {
            return k >= 0 && k < size ? octets[k] : NONE;
        }

        /** Where an octet is from a place on, or NONE. */
        int find(int octet, int from) {
            for (int k = Math.max(0, from); k < size; k++) {
                if (octets[k] == octet) {
                    return k;
                }
            }
            return NONE;
        }

        boolean isText(int from, int to, String words) {
            return to - from == words.length() && beginsWith(from, words);
        }

        boolean beginsWith(int from, String words) {
            if (from < 0 || from + words.length() > size) {
                return false;
            }
            for (int k = 0; k < words.length(); k++) {
                if (octets[from + k] != words.charAt(k)) {
                    return false;
                }
            }
            return true;
        }

        /** Whether the octets there are those of a part of a row. */
        boolean isPart(int from, int to, int[] row, int rowFrom, int rowSize) {
            if (from < 0 || to > size || to - from != rowSize || rowFrom + rowSize > row.length) {
                return false;
            }
            for (int k = 0; k < rowSize; k++) {
                if (octets[from + k] != row[rowFrom + k]) {
                    return false;
                }
            }
            return true;
        }

        /** Whether there are 1 to 20 octets from 33 to 126. */
        boolean isWord(int from, int to) {
            if (to <= from || to - from > NAME_LIMIT) {
                return false;
            }
            for (int k = from; k < to; k++) {
                if (at(k) <= BLANK || at(k) > 126) {
                    return false;
                }
            }
            return true;
        }

        /** The number that stands there, or NONE if it is none or above the limit. */
        int numberAt(int from, int to, int limit) {
            if (to <= from || to - from > 1 && at(from) == '0') {
                return NONE;
            }
            int number = 0;
            for (int k = from; k < to; k++) {
                int octet = at(k);
                if (octet < '0' || octet > '9') {
                    return NONE;
                }
                number = number * 10 + octet - '0';
                // Every limit is below a million, so that the next digit can't wrap around.
                if (number > limit) {
                    return NONE;
                }
            }
            return number;
        }

        void copyFrom(Octets other) {
            size = other.size;
            tooLong = false;
            System.arraycopy(other.octets, 0, octets, 0, size);
        }
    }

    /** Names of at most NAME_LIMIT octets, all in one row. */
    private static final class Names {
        private final int limit;
        private final int[] octets;
        private final int[] size;
        private int count;

        Names(int limit) {
            this.limit = Math.max(0, limit);
            octets = new int[this.limit * NAME_LIMIT];
            size = new int[this.limit];
        }

        void clear() {
            count = 0;
        }

        void open() {
            if (count < limit) {
                size[count] = 0;
                count++;
            }
        }

        /** One octet more for the name opened last. */
        void add(int octet) {
            int last = count - 1;
            if (last >= 0 && size[last] < NAME_LIMIT) {
                octets[last * NAME_LIMIT + size[last]] = octet;
                size[last]++;
            }
        }

        void addAll(Names other) {
            for (int n = 0; n < other.count; n++) {
                open();
                for (int k = 0; k < other.size[n]; k++) {
                    add(other.octets[n * NAME_LIMIT + k]);
                }
            }
        }

        int sizeOf(int n) {
            return n >= 0 && n < count ? size[n] : NONE;
        }

        int octetAt(int n, int k) {
            return k >= 0 && k < sizeOf(n) ? octets[n * NAME_LIMIT + k] : NONE;
        }

        /** The first of these that is the same as a name of others, or NONE. */
        int indexOf(Names other, int n) {
            for (int own = 0; own < count && n >= 0 && n < other.count; own++) {
                if (isName(own, other, n)) {
                    return own;
                }
            }
            return NONE;
        }

        private boolean isName(int own, Names other, int n) {
            if (size[own] != other.size[n]) {
                return false;
            }
            for (int k = 0; k < size[own]; k++) {
                if (octets[own * NAME_LIMIT + k] != other.octets[n * NAME_LIMIT + k]) {
                    return false;
                }
            }
            return true;
        }

        /** The name that stands in a text, or NONE. */
        int indexIn(Octets words, int from, int to) {
            for (int n = 0; n < count; n++) {
                if (words.isPart(from, to, octets, n * NAME_LIMIT, size[n])) {
                    return n;
                }
            }
            return NONE;
        }

        void writeName(int n, Octets words) {
            words.addPart(octets, n * NAME_LIMIT, sizeOf(n));
        }
    }

    /** The sequences of the reference: the letters of all of them stand in one row. */
    private static final class Genome {
        private final Names names = new Names(SEQUENCE_LIMIT);
        private final int[] letters = new int[LETTER_LIMIT];
        private final int[] start = new int[SEQUENCE_LIMIT];
        private final int[] size = new int[SEQUENCE_LIMIT];
        private final int[] width = new int[SEQUENCE_LIMIT];
        private final int[] textPlace = new int[SEQUENCE_LIMIT];
        private int count;
        private int total;

        void clear() {
            names.clear();
            count = 0;
            total = 0;
        }

        void open() {
            if (count < SEQUENCE_LIMIT) {
                names.open();
                start[count] = total;
                size[count] = 0;
                width[count] = 0;
                textPlace[count] = NONE;
                count++;
            }
        }

        void addLetter(int letter, int place) {
            int s = count - 1;
            if (s >= 0 && total < LETTER_LIMIT) {
                if (size[s] == 0) {
                    textPlace[s] = place;
                }
                letters[total] = letter;
                total++;
                size[s]++;
            }
        }

        void setWidth(int letters) {
            if (count > 0) {
                width[count - 1] = letters;
            }
        }

        boolean has(int s) {
            return s >= 0 && s < count;
        }

        int sizeOf(int s) {
            return has(s) ? size[s] : 0;
        }

        int letterAt(int s, int place) {
            return has(s) && place >= 1 && place <= size[s] ? letters[start[s] + place - 1] : NONE;
        }

        /** Writes the letters from a place on up to, but not with, another. */
        void writeLetters(int s, int from, int to, Octets words) {
            if (has(s)) {
                words.addPart(letters, start[s] + from - 1, to - from);
            }
        }
    }

    /** Reads a text as a reference, octet by octet, up to the first fault. */
    private static final class GenomeReader {
        private static final int AT_FIRST = 0;
        private static final int IN_NAME = 1;
        private static final int IN_REMARK = 2;
        private static final int BEFORE_LETTERS = 3;
        private static final int IN_LETTERS = 4;
        private static final int BEHIND_LETTERS = 5;

        private final Octets tape;
        private final Genome genome;
        private int state;
        private int at;
        private int nameSize;
        private int nameStart;
        private int width;
        private int lineSize;
        private int lastLineSize;
        private int fault;
        private int faultPlace;

        GenomeReader(Octets tape, Genome genome) {
            this.tape = tape;
            this.genome = genome;
            state = AT_FIRST;
        }

        boolean run() {
            genome.clear();
            for (int k = 0; k < tape.size; k++) {
                at = k;
                if (!take(tape.at(k))) {
                    return false;
                }
            }
            at = tape.size;
            return state == BEHIND_LETTERS || fail(1);
        }

        private boolean fail(int number) {
            fault = number;
            faultPlace = at;
            return false;
        }

        private boolean take(int octet) {
            switch (state) {
                case IN_NAME:
                    return takeInName(octet);
                case IN_REMARK:
                    return takeInRemark(octet);
                case IN_LETTERS:
                    return takeInLetters(octet);
                default:
                    return takeAtLineStart(octet);
            }
        }

        private boolean takeAtLineStart(int octet) {
            if (octet == '>' && state != BEFORE_LETTERS) {
                return openSequence();
            }
            if (letterOf(octet) != NONE && state != AT_FIRST) {
                return takeLetter(letterOf(octet));
            }
            return fail(2);
        }

        private boolean openSequence() {
            if (genome.count == SEQUENCE_LIMIT) {
                return fail(3);
            }
            genome.open();
            nameSize = 0;
            nameStart = at + 1;
            state = IN_NAME;
            return true;
        }

        private boolean takeInName(int octet) {
            if (isNameOctet(octet)) {
                if (nameSize == NAME_LIMIT) {
                    return fail(3);
                }
                genome.names.add(octet);
                nameSize++;
                return true;
            }
            if (nameSize == 0) {
                return fail(2);
            }
            if (octet == LINE_END) {
                return endNameLine();
            }
            state = IN_REMARK;
            return octet == BLANK || fail(2);
        }

        private boolean takeInRemark(int octet) {
            if (octet == LINE_END) {
                return endNameLine();
            }
            return octet >= BLANK && octet <= 126 || fail(2);
        }

        private boolean endNameLine() {
            int last = genome.count - 1;
            if (genome.names.indexOf(genome.names, last) != last) {
                fault = 4;
                faultPlace = nameStart;
                return false;
            }
            width = 0;
            lineSize = 0;
            lastLineSize = 0;
            state = BEFORE_LETTERS;
            return true;
        }

        private boolean takeInLetters(int octet) {
            if (octet == LINE_END) {
                endLetterLine();
                return true;
            }
            int letter = letterOf(octet);
            return letter == NONE ? fail(2) : takeLetter(letter);
        }

        private void endLetterLine() {
            if (width == 0) {
                width = lineSize;
                genome.setWidth(width);
            }
            lastLineSize = lineSize;
            lineSize = 0;
            state = BEHIND_LETTERS;
        }

        private boolean takeLetter(int letter) {
            if (genome.total == LETTER_LIMIT) {
                return fail(3);
            }
            boolean behindShortLine = lineSize == 0 && lastLineSize < width;
            if (width > 0 && (lineSize == width || behindShortLine)) {
                return fail(5);
            }
            genome.addLetter(letter, at);
            lineSize++;
            state = IN_LETTERS;
            return true;
        }

        private static boolean isNameOctet(int octet) {
            return octet >= 'A' && octet <= 'Z' || octet >= 'a' && octet <= 'z'
                    || octet >= '0' && octet <= '9' || octet == '_' || octet == '.';
        }
    }

    /** One record of a table. */
    private static final class Entry {
        private final int[] id = new int[NAME_LIMIT];
        private final int[] letters = new int[ROW_LIMIT * ROW_SIZE_LIMIT];
        private final int[] rowSize = new int[ROW_LIMIT];
        private final int[] calls = new int[SAMPLE_LIMIT * CALL_LIMIT];
        private final int[] callCount = new int[SAMPLE_LIMIT];
        private final boolean[] phased = new boolean[SAMPLE_LIMIT];
        private int sequence;
        private int place;
        private int rows;
        private int quality;
        private boolean passed;
        private int idSize;
        private int oldIndex;
        private int partner;

        void copyFrom(Entry other) {
            copyHead(other);
            System.arraycopy(other.letters, 0, letters, 0, letters.length);
            System.arraycopy(other.rowSize, 0, rowSize, 0, ROW_LIMIT);
            rows = other.rows;
            for (int sample = 0; sample < SAMPLE_LIMIT; sample++) {
                copyCalls(sample, other, sample);
            }
        }

        private void copyHead(Entry other) {
            sequence = other.sequence;
            place = other.place;
            quality = other.quality;
            passed = other.passed;
            idSize = other.idSize;
            System.arraycopy(other.id, 0, id, 0, NAME_LIMIT);
        }

        void copyCalls(int sample, Entry other, int otherSample) {
            for (int c = 0; c < CALL_LIMIT; c++) {
                calls[sample * CALL_LIMIT + c] = other.calls[otherSample * CALL_LIMIT + c];
            }
            callCount[sample] = other.callCount[otherSample];
            phased[sample] = other.phased[otherSample];
        }

        void setNoCall(int sample) {
            setCall(sample, 0, NONE);
            callCount[sample] = 1;
            phased[sample] = false;
        }

        void setCall(int sample, int c, int row) {
            calls[sample * CALL_LIMIT + c] = row;
        }

        int callAt(int sample, int c) {
            return c < callCount[sample] ? calls[sample * CALL_LIMIT + c] : NONE;
        }

        int letterAt(int row, int k) {
            return k >= 0 && k < rowSize[row] ? letters[row * ROW_SIZE_LIMIT + k] : NONE;
        }

        void addLetter(int row, int letter) {
            if (rowSize[row] < ROW_SIZE_LIMIT) {
                letters[row * ROW_SIZE_LIMIT + rowSize[row]] = letter;
                rowSize[row]++;
            }
        }

        void addIdOctet(int octet) {
            if (idSize < NAME_LIMIT) {
                id[idSize] = octet;
                idSize++;
            }
        }

        void copyRow(int row, Entry other, int otherRow) {
            int from = otherRow * ROW_SIZE_LIMIT;
            System.arraycopy(other.letters, from, letters, row * ROW_SIZE_LIMIT, ROW_SIZE_LIMIT);
            rowSize[row] = other.rowSize[otherRow];
        }

        boolean rowIs(int row, Entry other, int otherRow) {
            if (rowSize[row] != other.rowSize[otherRow]) {
                return false;
            }
            for (int k = 0; k < rowSize[row]; k++) {
                if (letterAt(row, k) != other.letterAt(otherRow, k)) {
                    return false;
                }
            }
            return true;
        }

        boolean hasAlts() {
            return rows > 1;
        }

        boolean standsBehind(Entry other) {
            return sequence > other.sequence || sequence == other.sequence && place > other.place;
        }

        boolean standsWith(Entry other) {
            return sequence == other.sequence && place == other.place;
        }

        boolean hasAllRowsOf(Entry other) {
            if (rows != other.rows) {
                return false;
            }
            for (int row = 0; row < rows; row++) {
                if (!rowIs(row, other, row)) {
                    return false;
                }
            }
            return true;
        }

        /** Answers whether it became another one. */
        boolean makeNormal(Genome genome) {
            if (!hasAlts()) {
                return false;
            }
            int cut = cutEnds(genome);
            int steps = shortestRow() == 1 ? stepsToLeft(genome) : 0;
            moveLeft(steps, genome);
            int trimmed = cutBeginnings();
            return cut + steps + trimmed > 0;
        }

        private int shortestRow() {
            int shortest = ROW_SIZE_LIMIT;
            for (int row = 0; row < rows; row++) {
                shortest = Math.min(shortest, rowSize[row]);
            }
            return shortest;
        }

        private int cutEnds(Genome genome) {
            int most = shortestRow() - 1;
            int count = 0;
            while (count < most && endAlikeAfter(0, genome)) {
                for (int row = 0; row < rows; row++) {
                    rowSize[row]--;
                }
                count++;
            }
            return count;
        }

        /** How often the letter before all rows can come to them and their last one go. */
        private int stepsToLeft(Genome genome) {
            int steps = 0;
            while (steps < place - 1 && endAlikeAfter(steps, genome)) {
                steps++;
            }
            return steps;
        }

        private boolean endAlikeAfter(int steps, Genome genome) {
            int letter = movedLetter(0, rowSize[0] - 1, steps, genome);
            for (int row = 1; row < rows; row++) {
                if (movedLetter(row, rowSize[row] - 1, steps, genome) != letter) {
                    return false;
                }
            }
            return true;
        }

        /** Letter k of a row after that many steps to the left. */
        private int movedLetter(int row, int k, int steps, Genome genome) {
            return k < steps ? genome.letterAt(sequence, place - steps + k) : letterAt(row, k - steps);
        }

        private void moveLeft(int steps, Genome genome) {
            for (int row = 0; row < rows; row++) {
                for (int k = rowSize[row] - 1; k >= 0; k--) {
                    letters[row * ROW_SIZE_LIMIT + k] = movedLetter(row, k, steps, genome);
                }
            }
            place -= steps;
        }

        private int cutBeginnings() {
            int most = shortestRow() - 1;
            int count = 0;
            while (count < most && alikeAt(count)) {
                count++;
            }
            for (int row = 0; row < rows; row++) {
                int size = rowSize[row];
                rowSize[row] = 0;
                for (int k = count; k < size; k++) {
                    addLetter(row, letters[row * ROW_SIZE_LIMIT + k]);
                }
            }
            place += count;
            return count;
        }

        private boolean alikeAt(int k) {
            for (int row = 1; row < rows; row++) {
                if (letterAt(row, k) != letterAt(0, k)) {
                    return false;
                }
            }
            return true;
        }

        /** Becomes what splitting makes of another one for one of its alts. */
        void takeAlt(Entry other, int alt, int samples) {
            copyFrom(other);
            copyRow(1, other, alt);
            rows = 2;
            for (int sample = 0; sample < samples; sample++) {
                for (int c = 0; c < callCount[sample]; c++) {
                    int row = callAt(sample, c);
                    if (row > 0) {
                        setCall(sample, c, row == alt ? 1 : 0);
                    }
                }
            }
        }

        boolean canReach(int refSize) {
            for (int row = 0; row < rows; row++) {
                if (rowSize[row] + refSize - rowSize[0] > ROW_SIZE_LIMIT) {
                    return false;
                }
            }
            return true;
        }

        /** Behind all rows comes what their ref lacks of another one's. */
        void reachAsFarAs(Entry other) {
            int from = rowSize[0];
            for (int row = 0; row < rows; row++) {
                for (int k = from; k < other.rowSize[0]; k++) {
                    addLetter(row, other.letterAt(0, k));
                }
            }
        }

        /** Which alt has the letters of another one's row, or NONE. */
        int altLike(Entry other, int otherRow) {
            for (int row = 1; row < rows; row++) {
                if (rowIs(row, other, otherRow)) {
                    return row;
                }
            }
            return NONE;
        }

        boolean meansSameAs(Entry other, Genome genome) {
            if (rows != 2 || other.rows != 2 || sequence != other.sequence || growth() != other.growth()) {
                return false;
            }
            int from = Math.min(place, other.place);
            int to = Math.max(place + rowSize[1], other.place + other.rowSize[1]);
            for (int p = from; p < to; p++) {
                if (letterAfter(p, genome) != other.letterAfter(p, genome)) {
                    return false;
                }
            }
            return true;
        }

        private int growth() {
            return rowSize[1] - rowSize[0];
        }

        /** The letter at a place of the sequence with the alt on it. */
        private int letterAfter(int p, Genome genome) {
            if (p < place) {
                return genome.letterAt(sequence, p);
            }
            if (p < place + rowSize[1]) {
                return letterAt(1, p - place);
            }
            return genome.letterAt(sequence, p - growth());
        }

        void writeTo(Octets words, int samples, Genome genome) {
            genome.names.writeName(sequence, words);
            words.add(TAB);
            words.addNumber(place);
            words.add(TAB);
            if (idSize == 0) {
                words.add('.');
            }
            words.addPart(id, 0, idSize);
            words.add(TAB);
            writeRow(0, words);
            words.add(TAB);
            writeAlts(words);
            words.add(TAB);
            words.addNumberOrPoint(quality);
            words.add(TAB);
            words.addText(passed ? "PASS" : ".");
            words.add(TAB);
            words.add('.');
            if (samples > 0) {
                words.add(TAB);
                words.addText("GT");
            }
            for (int sample = 0; sample < samples; sample++) {
                words.add(TAB);
                writeCalls(sample, words);
            }
            words.add(LINE_END);
        }

        void writeRow(int row, Octets words) {
            words.addPart(letters, row * ROW_SIZE_LIMIT, rowSize[row]);
        }

        private void writeAlts(Octets words) {
            if (!hasAlts()) {
                words.add('.');
            }
            for (int row = 1; row < rows; row++) {
                if (row > 1) {
                    words.add(',');
                }
                writeRow(row, words);
            }
        }

        private void writeCalls(int sample, Octets words) {
            for (int c = 0; c < callCount[sample]; c++) {
                if (c > 0) {
                    words.add(phased[sample] ? '|' : '/');
                }
                words.addNumberOrPoint(callAt(sample, c));
            }
        }
    }

    /** A table: its records, and the names of its samples. */
    private static final class Sheet {
        private final Entry[] entries = new Entry[ENTRY_LIMIT];
        private final Names names = new Names(SAMPLE_LIMIT);
        private int size;

        Sheet() {
            for (int i = 0; i < ENTRY_LIMIT; i++) {
                entries[i] = new Entry();
            }
        }

        void clear() {
            size = 0;
            names.clear();
        }

        boolean canTakeSamples(Sheet other) {
            if (names.count + other.names.count > SAMPLE_LIMIT) {
                return false;
            }
            for (int sample = 0; sample < other.names.count; sample++) {
                if (names.indexOf(other.names, sample) != NONE) {
                    return false;
                }
            }
            return true;
        }

        int sizeWhenSplit() {
            int count = 0;
            for (int i = 0; i < size; i++) {
                count += Math.max(1, entries[i].rows - 1);
            }
            return count;
        }

        void takeSplit(Sheet other) {
            clear();
            names.addAll(other.names);
            for (int i = 0; i < other.size; i++) {
                takeSplitEntry(other.entries[i]);
            }
        }

        private void takeSplitEntry(Entry entry) {
            if (!entry.hasAlts() && size < ENTRY_LIMIT) {
                entries[size].copyFrom(entry);
                size++;
            }
            for (int alt = 1; alt < entry.rows && size < ENTRY_LIMIT; alt++) {
                entries[size].takeAlt(entry, alt, names.count);
                size++;
            }
        }

        void joinAll(Joiner joiner) {
            int last = 0;
            for (int i = 1; i < size; i++) {
                if (!joiner.joins(entries[last], entries[i], names.count)) {
                    last++;
                    swap(entries, last, entries, i);
                }
            }
            size = Math.min(size, last + 1);
        }

        /** Answers how many stand somewhere else then. */
        int putInOrder() {
            for (int i = 0; i < size; i++) {
                entries[i].oldIndex = i;
                sinkToPlace(i);
            }
            int moved = 0;
            for (int i = 0; i < size; i++) {
                if (entries[i].oldIndex != i) {
                    moved++;
                }
            }
            return moved;
        }

        private void sinkToPlace(int i) {
            Entry entry = entries[i];
            int at = i;
            while (at > 0 && entries[at - 1].standsBehind(entry)) {
                entries[at] = entries[at - 1];
                at--;
            }
            entries[at] = entry;
        }

        /**
         * Finds for each record of another table the one here that it becomes one with; answers how many.
         * Records that are alike keep their order in sorting, so this needs no sorted tables.
         */
        int pairWith(Sheet other) {
            for (int i = 0; i < size; i++) {
                entries[i].partner = NONE;
            }
            int pairs = 0;
            for (int j = 0; j < other.size; j++) {
                int i = firstFreeLike(other.entries[j]);
                other.entries[j].partner = i;
                if (i != NONE) {
                    entries[i].partner = j;
                    pairs++;
                }
            }
            return pairs;
        }

        private int firstFreeLike(Entry entry) {
            for (int i = 0; i < size; i++) {
                Entry own = entries[i];
                if (own.partner == NONE && own.standsWith(entry) && own.hasAllRowsOf(entry)) {
                    return i;
                }
            }
            return NONE;
        }

        /** After pairWith: takes the samples and the records of another table, these behind its own. */
        void takeAll(Sheet other) {
            int ownSamples = names.count;
            names.addAll(other.names);
            for (int i = 0; i < size; i++) {
                setNoCalls(entries[i], ownSamples, names.count);
            }
            for (int j = 0; j < other.size; j++) {
                Entry entry = other.entries[j];
                int i = entry.partner;
                if (i >= 0 && i < size) {
                    moveCalls(entry, entries[i], ownSamples, other.names.count);
                } else if (size < ENTRY_LIMIT) {
                    moveCalls(entry, entry, ownSamples, other.names.count);
                    setNoCalls(entry, 0, ownSamples);
                    swap(entries, size, other.entries, j);
                    size++;
                }
            }
        }

        private static void setNoCalls(Entry entry, int from, int to) {
            for (int sample = from; sample < to; sample++) {
                entry.setNoCall(sample);
            }
        }

        /** From the last sample on, so that none is lost when both are one record. */
        private static void moveCalls(Entry from, Entry into, int shift, int count) {
            for (int sample = count - 1; sample >= 0; sample--) {
                into.copyCalls(sample + shift, from, sample);
            }
        }

        private static void swap(Entry[] row, int i, Entry[] otherRow, int j) {
            Entry entry = row[i];
            row[i] = otherRow[j];
            otherRow[j] = entry;
        }

        void writeTo(Octets words, Genome genome) {
            words.addText(FORMAT_LINE);
            words.add(LINE_END);
            words.addText(HEAD);
            if (names.count > 0) {
                words.add(TAB);
                words.addText("FORMAT");
            }
            for (int sample = 0; sample < names.count; sample++) {
                words.add(TAB);
                names.writeName(sample, words);
            }
            words.add(LINE_END);
            for (int i = 0; i < size; i++) {
                entries[i].writeTo(words, names.count, genome);
            }
        }
    }

    /** Reads a text as a table, line by line and column by column, up to the first fault. */
    private static final class SheetReader {
        private static final int NO_CALL = -2;

        private final Octets tape;
        private final Genome genome;
        private final Sheet sheet;
        private final int[] starts;
        private int begin;
        private int end;
        private int next;
        private int columns;
        private int fault;
        private int faultPlace;

        SheetReader(Octets tape, Genome genome, Sheet sheet) {
            this.tape = tape;
            this.genome = genome;
            this.sheet = sheet;
            starts = new int[COLUMN_LIMIT + 1];
        }

        boolean run() {
            sheet.clear();
            if (!takeFirstLine() || !takeLinesToHead()) {
                return false;
            }
            int due = columns;
            for (int i = 0; i <= ENTRY_LIMIT && next < tape.size; i++) {
                if (!takeLine()) {
                    return false;
                }
                if (i == ENTRY_LIMIT) {
                    return fail(6, begin);
                }
                cutColumns();
                if (columns != due) {
                    return fail(3, begin);
                }
                if (!takeEntry(sheet.entries[i]) || !takeAllCalls(sheet.entries[i])) {
                    return false;
                }
                sheet.size = i + 1;
            }
            return true;
        }

        private boolean fail(int number, int place) {
            fault = number;
            faultPlace = place;
            return false;
        }

        private boolean takeLine() {
            begin = next;
            end = tape.find(LINE_END, begin);
            if (end == NONE) {
                return fail(1, tape.size);
            }
            next = end + 1;
            return true;
        }

        private boolean takeFirstLine() {
            return takeLine() && (tape.isText(begin, end, FORMAT_LINE) || fail(2, begin));
        }

        private boolean takeLinesToHead() {
            for (int lines = 0; lines <= TEXT_LIMIT; lines++) {
                if (!takeLine()) {
                    return false;
                }
                if (!tape.beginsWith(begin, "##")) {
                    cutColumns();
                    return takeHead() || fail(2, begin);
                }
            }
            return fail(1, tape.size);
        }

        /** Finds where the columns of a line start, and behind the last one where the next would. */
        private void cutColumns() {
            columns = 0;
            int start = begin;
            for (int k = begin; k <= end; k++) {
                if (k == end || tape.at(k) == TAB) {
                    if (columns < COLUMN_LIMIT) {
                        starts[columns] = start;
                        starts[columns + 1] = k + 1;
                    }
                    start = k + 1;
                    columns++;
                }
            }
        }

        private boolean takeHead() {
            if (columns == HEAD_COLUMNS) {
                return tape.isText(begin, end, HEAD);
            }
            if (columns < HEAD_COLUMNS + 2 || columns > COLUMN_LIMIT) {
                return false;
            }
            if (!tape.isText(begin, starts[HEAD_COLUMNS] - 1, HEAD) || !columnIs(HEAD_COLUMNS, "FORMAT")) {
                return false;
            }
            for (int c = HEAD_COLUMNS + 1; c < columns; c++) {
                if (!takeSampleName(starts[c], starts[c + 1] - 1)) {
                    return false;
                }
            }
            return true;
        }

        private boolean takeSampleName(int from, int to) {
            if (!tape.isWord(from, to) || sheet.names.indexIn(tape, from, to) != NONE) {
                return false;
            }
            sheet.names.open();
            for (int k = from; k < to; k++) {
                sheet.names.add(tape.at(k));
            }
            return true;
        }

        private boolean takeEntry(Entry entry) {
            return (takeSequence(entry) || failColumn(0))
                    && (takePlace(entry) || failColumn(1))
                    && (takeId(entry) || failColumn(2))
                    && (takeRow(entry, 0, starts[3], starts[4] - 1) || failColumn(3))
                    && (refIsThere(entry) || fail(5, starts[3]))
                    && (takeAlts(entry) || failColumn(4))
                    && (takeQuality(entry) || failColumn(5))
                    && (takePassed(entry) || failColumn(6))
                    && (columnIs(7, ".") || failColumn(7))
                    && (sheet.names.count == 0 || columnIs(8, "GT") || failColumn(8));
        }

        private boolean failColumn(int c) {
            return fail(4, starts[c]);
        }

        private boolean columnIs(int c, String words) {
            return tape.isText(starts[c], starts[c + 1] - 1, words);
        }

        private boolean takeSequence(Entry entry) {
            entry.sequence = genome.names.indexIn(tape, starts[0], starts[1] - 1);
            return entry.sequence != NONE;
        }

        private boolean takePlace(Entry entry) {
            entry.place = tape.numberAt(starts[1], starts[2] - 1, genome.sizeOf(entry.sequence));
            return entry.place > 0;
        }

        private boolean takeId(Entry entry) {
            entry.idSize = 0;
            if (columnIs(2, ".")) {
                return true;
            }
            int from = starts[2];
            int to = starts[3] - 1;
            if (!tape.isWord(from, to)) {
                return false;
            }
            for (int k = from; k < to; k++) {
                entry.addIdOctet(tape.at(k));
            }
            return true;
        }

        private boolean takeRow(Entry entry, int row, int from, int to) {
            if (row >= ROW_LIMIT || to <= from || to - from > ROW_SIZE_LIMIT) {
                return false;
            }
            entry.rowSize[row] = 0;
            for (int k = from; k < to; k++) {
                int letter = letterOf(tape.at(k));
                if (letter == NONE) {
                    return false;
                }
                entry.addLetter(row, letter);
            }
            entry.rows = row + 1;
            return true;
        }

        private boolean refIsThere(Entry entry) {
            for (int k = 0; k < entry.rowSize[0]; k++) {
                if (genome.letterAt(entry.sequence, entry.place + k) != entry.letterAt(0, k)) {
                    return false;
                }
            }
            return true;
        }

        private boolean takeAlts(Entry entry) {
            if (columnIs(4, ".")) {
                return true;
            }
            int from = starts[4];
            int to = starts[5] - 1;
            for (int k = from; k <= to; k++) {
                if (k == to || tape.at(k) == ',') {
                    if (!takeAlt(entry, from, k)) {
                        return false;
                    }
                    from = k + 1;
                }
            }
            return true;
        }

        private boolean takeAlt(Entry entry, int from, int to) {
            int row = entry.rows;
            if (!takeRow(entry, row, from, to)) {
                return false;
            }
            for (int before = 0; before < row; before++) {
                if (entry.rowIs(before, entry, row)) {
                    return false;
                }
            }
            return true;
        }

        private boolean takeQuality(Entry entry) {
            entry.quality = tape.numberAt(starts[5], starts[6] - 1, QUALITY_LIMIT);
            return entry.quality != NONE || columnIs(5, ".");
        }

        private boolean takePassed(Entry entry) {
            entry.passed = columnIs(6, "PASS");
            return entry.passed || columnIs(6, ".");
        }

        private boolean takeAllCalls(Entry entry) {
            for (int sample = 0; sample < sheet.names.count; sample++) {
                int c = HEAD_COLUMNS + 1 + sample;
                if (!takeCalls(entry, sample, starts[c], starts[c + 1] - 1)) {
                    return failColumn(c);
                }
            }
            return true;
        }

        private boolean takeCalls(Entry entry, int sample, int from, int to) {
            int middle = to;
            for (int k = to - 1; k >= from; k--) {
                if (tape.at(k) == '/' || tape.at(k) == '|') {
                    middle = k;
                }
            }
            boolean two = middle < to;
            int first = callAt(from, middle, entry.rows);
            int second = two ? callAt(middle + 1, to, entry.rows) : NONE;
            if (first == NO_CALL || second == NO_CALL) {
                return false;
            }
            entry.setCall(sample, 0, first);
            entry.setCall(sample, 1, second);
            entry.callCount[sample] = two ? 2 : 1;
            entry.phased[sample] = two && tape.at(middle) == '|';
            return true;
        }

        private int callAt(int from, int to, int rows) {
            if (tape.isText(from, to, ".")) {
                return NONE;
            }
            int row = tape.numberAt(from, to, rows - 1);
            return row == NONE ? NO_CALL : row;
        }
    }

    /** Makes one record of two, where they fit into one. */
    private static final class Joiner {
        private final Entry first = new Entry();
        private final Entry second = new Entry();
        private final int[] newNumber = new int[ROW_LIMIT];

        /** Answers whether the one took the other; if not, both stay as they are. */
        boolean joins(Entry one, Entry other, int samples) {
            if (!one.hasAlts() || !other.hasAlts() || !one.standsWith(other)) {
                return false;
            }
            int refSize = Math.max(one.rowSize[0], other.rowSize[0]);
            if (!one.canReach(refSize) || !other.canReach(refSize)) {
                return false;
            }
            first.copyFrom(one);
            second.copyFrom(other);
            first.reachAsFarAs(other);
            second.reachAsFarAs(one);
            if (!takeAlts()) {
                return false;
            }
            for (int sample = 0; sample < samples; sample++) {
                joinCalls(sample);
            }
            one.copyFrom(first);
            return true;
        }

        private boolean takeAlts() {
            for (int row = 1; row < second.rows; row++) {
                int found = first.altLike(second, row);
                if (found == NONE) {
                    found = first.rows;
                    if (found == ROW_LIMIT) {
                        return false;
                    }
                    first.copyRow(found, second, row);
                    first.rows++;
                }
                newNumber[row] = found;
            }
            return true;
        }

        private void joinCalls(int sample) {
            int count = Math.max(first.callCount[sample], second.callCount[sample]);
            boolean phased = joinedPhase(sample);
            for (int c = 0; c < count; c++) {
                first.setCall(sample, c, joinedCall(first.callAt(sample, c), second.callAt(sample, c)));
            }
            first.callCount[sample] = count;
            first.phased[sample] = phased;
        }

        private boolean joinedPhase(int sample) {
            if (first.callCount[sample] == 1) {
                return second.phased[sample];
            }
            return first.phased[sample] && (second.callCount[sample] == 1 || second.phased[sample]);
        }

        private int joinedCall(int call, int otherCall) {
            if (call > 0) {
                return call;
            }
            if (otherCall > 0 && otherCall < ROW_LIMIT) {
                return newNumber[otherCall];
            }
            return call == 0 || otherCall == 0 ? 0 : NONE;
        }
    }

    /** What was put on a sequence last: which parts of it were replaced, and where they are now. */
    private static final class Haplotype {
        private final int[] chosen = new int[ENTRY_LIMIT];
        private final int[] from = new int[ENTRY_LIMIT];
        private final int[] size = new int[ENTRY_LIMIT];
        private final int[] newFrom = new int[ENTRY_LIMIT];
        private final int[] newSize = new int[ENTRY_LIMIT];
        private int chosenCount;
        private int count;
        private int total;
        private int newTotal;

        void clear() {
            count = 0;
            total = 0;
            newTotal = 0;
        }

        /** Chooses the records of a haplotype by their places; what was put on last stays. */
        void choose(Sheet sheet, int sample, int which, int s) {
            chosenCount = 0;
            for (int i = 0; i < sheet.size; i++) {
                Entry entry = sheet.entries[i];
                if (entry.sequence == s && entry.callAt(sample, which) > 0) {
                    insert(sheet, i);
                }
            }
        }

        private void insert(Sheet sheet, int i) {
            int at = chosenCount;
            while (at > 0 && sheet.entries[chosen[at - 1]].standsBehind(sheet.entries[i])) {
                chosen[at] = chosen[at - 1];
                at--;
            }
            chosen[at] = i;
            chosenCount++;
        }

        boolean clashes(Sheet sheet) {
            for (int k = 1; k < chosenCount; k++) {
                Entry before = sheet.entries[chosen[k - 1]];
                if (sheet.entries[chosen[k]].place < before.place + before.rowSize[0]) {
                    return true;
                }
            }
            return false;
        }

        /** Puts on what was chosen, and writes what comes of it. */
        void putOn(Sheet sheet, int sample, int which, Genome genome, int s, Octets words) {
            int next = 1;
            for (int k = 0; k < chosenCount; k++) {
                Entry entry = sheet.entries[chosen[k]];
                int row = entry.callAt(sample, which);
                genome.writeLetters(s, next, entry.place, words);
                from[k] = entry.place;
                size[k] = entry.rowSize[0];
                newFrom[k] = words.size + 1;
                newSize[k] = entry.rowSize[row];
                entry.writeRow(row, words);
                next = entry.place + entry.rowSize[0];
            }
            total = genome.sizeOf(s);
            genome.writeLetters(s, next, total + 1, words);
            newTotal = words.size;
            count = chosenCount;
        }

        int carriedTo(int place) {
            return place > total ? NONE : moved(place, from, size, newFrom, newSize);
        }

        int backTo(int place) {
            return place > newTotal ? NONE : moved(place, newFrom, newSize, from, size);
        }

        private int moved(int place, int[] start, int[] length, int[] newStart, int[] newLength) {
            if (place < 1) {
                return NONE;
            }
            int shift = 0;
            for (int k = 0; k < count && start[k] <= place; k++) {
                int i = place - start[k];
                if (i < length[k]) {
                    return i < newLength[k] ? newStart[k] + i : NONE;
                }
                shift = newStart[k] + newLength[k] - start[k] - length[k];
            }
            return place + shift;
        }
    }
}
