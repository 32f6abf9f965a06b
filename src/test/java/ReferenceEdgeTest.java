/** The edges of THE REFERENCE: promises 3 (reference), 5 (place), 6 (sequence) and 7 (letter). */
public final class ReferenceEdgeTest {
    private static final String LETTERS = "ACGTNacgtn";
    private static final String NAME_OCTETS = "ABCDEFGHIJKLMNOPQRSTUVWXYZabcdefghijklmnopqrstuvwxyz0123456789_.";
    private static final String NAME20 = "abcdefghijklmnopqrst";

    public static void main(String[] args) {
        everyFirstOctet();
        everyOctetThatBeginsAName();
        everyOctetOfAName();
        everyOctetBehindAName20Long();
        everyOctetOfARemark();
        everyOctetThatBeginsTheLetters();
        everyOctetOfTheLetters();
        everyOctetThatBeginsALineBehindLetters();
        nameOfOneTo20Octets();
        nameOf21Octets();
        eightSequences();
        theNinth();
        threeThousandLetters();
        theNextLetter();
        linesOfLetters();
        theWidth();
        theTapeEndsInALine();
        theTapeEndsWhereALineHasToBe();
        namesThatOneBeforeHas();
        namesThatAreNotAlike();
        theNameCountsAsItsLineEnds();
        beyondTheWidth();
        behindAShorterLine();
        theLesserOfTwo();
        threeBeforeFive();
        placeOfTheLastFault();
        theNextReferenceReplacesAll();
        oneReferenceBehindTheOther();
        lettersOfAFaultDoNotCount();
        bothTablesHaveNothingThen();
        Check.end("ReferenceEdgeTest");
    }

    private static void fine(String text, int count) {
        Desk desk = new Desk();
        Check.due("reference of " + text, Check.reference(desk, text), count);
        Check.due("no fault in " + text, desk.place(), -1);
    }

    private static void fault(String text, int number, int place) {
        Desk desk = new Desk();
        Check.due("reference of " + text, Check.reference(desk, text), -number);
        Check.due("the place in " + text, desk.place(), place);
        Check.dueIndex("no sequence after " + text, () -> desk.sequence(0, 0));
    }

    private static void everyFirstOctet() {
        for (char octet = 0; octet < 256; octet++) {
            if (octet == '>') {
                fine(octet + "a\nA\n", 1);
            } else {
                fault(octet + "a\nA\n", 2, 0);
            }
        }
    }

    private static void everyOctetThatBeginsAName() {
        for (char octet = 0; octet < 256; octet++) {
            if (NAME_OCTETS.indexOf(octet) >= 0) {
                fine(">" + octet + "\nA\n", 1);
            } else {
                fault(">" + octet + "\nA\n", 2, 1);
            }
        }
    }

    private static void everyOctetOfAName() {
        for (char octet = 0; octet < 256; octet++) {
            if (NAME_OCTETS.indexOf(octet) >= 0) {
                Desk desk = new Desk();
                Check.due("reference", Check.reference(desk, ">a" + octet + "b\nA\n"), 1);
                Check.due("octets of the name", desk.sequence(0, 3), 3);
                Check.due("the second one", desk.letter(0, -1), octet);
            } else if (octet == '\n') {
                fault(">a\nb\nA\n", 2, 3);
            } else if (octet == ' ') {
                fine(">a b\nA\n", 1);
            } else {
                fault(">a" + octet + "b\nA\n", 2, 2);
            }
        }
    }

    private static void everyOctetBehindAName20Long() {
        for (char octet = 0; octet < 256; octet++) {
            String text = ">" + NAME20 + octet + "\nA\n";
            if (NAME_OCTETS.indexOf(octet) >= 0) {
                fault(text, 3, 21);
            } else if (octet == ' ') {
                fine(text, 1);
            } else {
                fault(text, 2, octet == '\n' ? 22 : 21);
            }
        }
    }

    private static void everyOctetOfARemark() {
        for (char octet = 0; octet < 256; octet++) {
            String text = ">a " + octet + "\nA\n";
            if (octet >= 32 && octet <= 126) {
                fine(text, 1);
            } else {
                fault(text, 2, octet == '\n' ? 4 : 3);
            }
        }
        fine(">a \nA\n", 1);
        fine(">a  > >a\nA\n", 1);
    }

    private static void everyOctetThatBeginsTheLetters() {
        for (char octet = 0; octet < 256; octet++) {
            String text = ">a\n" + octet + "\n";
            if (LETTERS.indexOf(octet) >= 0) {
                fine(text, 1);
            } else {
                fault(text, 2, 3);
            }
        }
    }

    private static void everyOctetOfTheLetters() {
        for (char octet = 0; octet < 256; octet++) {
            String text = ">a\nA" + octet + "\n";
            if (LETTERS.indexOf(octet) >= 0) {
                Desk desk = new Desk();
                Check.due("reference", Check.reference(desk, text), 1);
                Check.due("letter", desk.letter(0, 2), Character.toUpperCase(octet));
            } else {
                fault(text, 2, octet == '\n' ? 5 : 4);
            }
        }
    }

    private static void everyOctetThatBeginsALineBehindLetters() {
        for (char octet = 0; octet < 256; octet++) {
            String text = ">a\nA\n" + octet + "\n";
            if (LETTERS.indexOf(octet) >= 0) {
                fine(text, 1);
            } else {
                fault(text, 2, octet == '>' ? 6 : 5);
            }
        }
    }

    private static void nameOfOneTo20Octets() {
        for (int size = 1; size <= 20; size++) {
            Desk desk = new Desk();
            String name = NAME20.substring(0, size);
            Check.due("reference", Check.reference(desk, ">" + name + "\nA\n"), 1);
            Check.due("octets of the name", desk.sequence(0, 3), size);
            Check.due("the first one", desk.letter(0, 0), 'a');
            Check.due("the last one", desk.letter(0, 1 - size), name.charAt(size - 1));
            Check.dueIndex("the one behind", () -> desk.letter(0, -name.length()));
        }
        fault(">\nA\n", 2, 1);
        fault("> \nA\n", 2, 1);
    }

    private static void nameOf21Octets() {
        fault(">" + NAME20 + "u\nA\n", 3, 21);
        fault(">" + NAME20 + "u", 3, 21);
        fault(">a\nA\n>" + NAME20 + "uvw\nA\n", 3, 26);
    }

    private static String sequences(int count, String letters) {
        StringBuilder text = new StringBuilder();
        for (int s = 0; s < count; s++) {
            text.append(">s").append(s).append('\n').append(letters).append('\n');
        }
        return text.toString();
    }

    private static void eightSequences() {
        Desk desk = new Desk();
        Check.due("reference", Check.reference(desk, sequences(8, "ACG")), 8);
        for (int s = 0; s < 8; s++) {
            Check.due("letters of " + s, desk.sequence(s, 0), 3);
            Check.due("the first letter of " + s, desk.letter(s, 1), 'A');
            Check.due("the last letter of " + s, desk.letter(s, 3), 'G');
            Check.due("name of " + s, desk.letter(s, -1), '0' + s);
            Check.due("where " + s + " was", desk.sequence(s, 1), 8 * s + 4);
        }
        Check.dueIndex("a ninth", () -> desk.sequence(8, 0));
        Check.dueIndex("a ninth", () -> desk.letter(8, 1));
    }

    private static void theNinth() {
        String eight = sequences(8, "A");
        fault(eight + ">", 3, 48);
        fault(eight + ">x\nA\n", 3, 48);
        fault(eight + ">s0\nA\n", 3, 48);
        fault(eight + ">\n", 3, 48);
    }

    /** 40 lines of 75. */
    private static String fullLines() {
        return Check.repeat(Check.repeat("ACGTN", 15) + "\n", 40);
    }

    private static void threeThousandLetters() {
        Desk desk = new Desk();
        Check.due("reference", Check.reference(desk, ">a\n" + fullLines()), 1);
        Check.due("letters", desk.sequence(0, 0), 3000);
        Check.due("width", desk.sequence(0, 2), 75);
        Check.due("the last one", desk.letter(0, 3000), 'N');
        Check.due("the first one", desk.letter(0, 1), 'A');
        Check.dueIndex("the one behind", () -> desk.letter(0, 3001));
        Desk eight = new Desk();
        Check.due("reference of eight", Check.reference(eight, sequences(8, Check.repeat("ACGTA", 75))), 8);
        Check.due("the last one's last letter", eight.letter(7, 375), 'A');
        Check.dueIndex("the one behind", () -> eight.letter(7, 376));
        Check.dueIndex("the next sequence's letter", () -> eight.letter(0, 376));
        fine(">a\n" + Check.repeat("A", 3000) + "\n", 1);
    }

    private static void theNextLetter() {
        fault(">a\n" + Check.repeat("A", 3001) + "\n", 3, 3003);
        fault(">a\n" + fullLines() + "A\n", 3, 3 + 40 * 76);
        fault(">a\n" + fullLines() + "n", 3, 3 + 40 * 76);
        fault(">a\n" + fullLines() + ">b\nA\n", 3, 3 + 40 * 76 + 3);
        fault(">a\n" + fullLines() + ">b\nX\n", 2, 3 + 40 * 76 + 3);
        fault(">a\n" + fullLines() + ">b\n", 1, 3 + 40 * 76 + 3);
        String eight = sequences(8, Check.repeat("A", 375));
        fault(eight.substring(0, eight.length() - 1) + "A\n", 3, eight.length() - 1);
    }

    private static void linesOfLetters() {
        fault(">a\n", 1, 3);
        fault(">a\n\n", 2, 3);
        fault(">a\n>b\nA\n", 2, 3);
        fault(">a\nA\n\n", 2, 5);
        fault(">a\nA\n\nA\n", 2, 5);
        fine(">a\nA\n", 1);
        fine(">a\n" + Check.repeat("A\n", 100), 1);
    }

    private static void width(String lines, int width, int letters) {
        Desk desk = new Desk();
        Check.due("reference", Check.reference(desk, ">b\nACGT\n>a\n" + lines + ">c\nAC\n"), 3);
        Check.due("width of " + lines, desk.sequence(1, 2), width);
        Check.due("letters of " + lines, desk.sequence(1, 0), letters);
        Check.due("where the first one was", desk.sequence(1, 1), 11);
    }

    private static void theWidth() {
        width("A\n", 1, 1);
        width("ACG\n", 3, 3);
        width("ACG\nACG\n", 3, 6);
        width("ACG\nA\n", 3, 4);
        width("ACG\nACG\nAC\n", 3, 8);
        width("A\nA\nA\n", 1, 3);
    }

    private static void theTapeEndsInALine() {
        fault("", 1, 0);
        fault(">", 1, 1);
        fault(">a", 1, 2);
        fault(">" + NAME20, 1, 21);
        fault(">a ", 1, 3);
        fault(">a x", 1, 4);
        fault(">a\nA", 1, 4);
        fault(">a\nAC\nAC", 1, 8);
        fault(">a\nAC\nA", 1, 7);
        fault(">a\nA\n>", 1, 6);
        fault(">a\n" + fullLines().substring(0, 40 * 76 - 1), 1, 3 + 40 * 76 - 1);
    }

    private static void theTapeEndsWhereALineHasToBe() {
        fault("", 1, 0);
        fault(">a\n", 1, 3);
        fault(">a x\n", 1, 5);
        fault(">a\nA\n>b\n", 1, 8);
    }

    private static void namesThatOneBeforeHas() {
        fault(">a\nA\n>a\nA\n", 4, 6);
        fault(">a\nA\n>a x\nA\n", 4, 6);
        fault(">a x\nA\n>b\nA\n>a y\nA\n", 4, 13);
        fault(">b\nA\n>a\nA\n>a\nA\n", 4, 11);
        fault(">" + NAME20 + "\nA\n>" + NAME20 + "\nA\n", 4, 25);
        fault(sequences(7, "A") + ">s0\nA\n", 4, 43);
        fault(sequences(7, "A") + ">s6\nA\n", 4, 43);
    }

    private static void namesThatAreNotAlike() {
        fine(">a\nA\n>A\nA\n", 2);
        fine(">a\nA\n>aa\nA\n", 2);
        fine(">aa\nA\n>a\nA\n", 2);
        fine(">a a\nA\n>b a\nA\n", 2);
        fine(">" + NAME20 + "\nA\n>" + NAME20.substring(0, 19) + "u\nA\n>" + NAME20.substring(0, 19) + "\nA\n", 3);
    }

    private static void theNameCountsAsItsLineEnds() {
        fault(">a\nA\n>a", 1, 7);
        fault(">a\nA\n>a x", 1, 9);
        fault(">a\nA\n>a\t\nA\n", 2, 7);
        fault(">a\nA\n>a x\t\nA\n", 2, 9);
        fault(">a\nA\n>a\n", 4, 6);
        fault(">a\nA\n>a\n\n", 4, 6);
        fault(">a\nA\n>a\nX\n", 4, 6);
    }

    private static void beyondTheWidth() {
        fault(">a\nA\nAC\n", 5, 6);
        fault(">a\nACG\nACGT\n", 5, 10);
        fault(">a\nACG\nACG\nACGT", 5, 14);
        fault(">a\nACG\nACGX\n", 2, 10);
        fault(">b\nACGTACGT\n>a\nAC\nACG\n", 5, 20);
    }

    private static void behindAShorterLine() {
        fault(">a\nAC\nA\nA\n", 5, 8);
        fault(">a\nAC\nA\nAC\n", 5, 8);
        fault(">a\nACG\nACG\nAC\nA", 5, 14);
        fault(">a\nAC\nA\n\n", 2, 8);
        fault(">a\nAC\nA\nX\n", 2, 8);
        fine(">a\nAC\nA\n>b\nACG\nACG\n", 2);
        fine(">a\nACG\nA\n>b\nA\nA\n", 2);
    }

    /** An octet that can't stand there is fault 2, though it be the ninth > as well. */
    private static void theLesserOfTwo() {
        String eight = sequences(8, "A");
        String seven = sequences(7, "A");
        fault(seven + ">x\n>\n", 2, 45);
        fault(eight.substring(0, 47) + ">", 2, 47);
        fault(">" + NAME20 + "!\nA\n", 2, 21);
        fault(">" + NAME20 + "\n\n", 2, 22);
    }

    private static void threeBeforeFive() {
        fault(">a\n" + fullLines().substring(0, 40 * 76 - 1) + "A\n", 3, 3 + 40 * 76 - 1);
        String before = ">b\nA\n>a\n";
        String shorter = fullLines().substring(0, 40 * 76 - 2) + "\n";
        fault(before + shorter + "A\n", 3, before.length() + shorter.length());
        fault(">a\n" + shorter + "A\n", 5, 3 + shorter.length());
    }

    private static void placeOfTheLastFault() {
        Desk desk = new Desk();
        Check.due("before one", desk.place(), -1);
        Check.reference(desk, ">a\nA\n");
        Check.due("still before one", desk.place(), -1);
        Check.reference(desk, ">a\nAX\n");
        Check.due("the first fault", desk.place(), 4);
        Check.reference(desk, "");
        Check.due("the next one, at 0", desk.place(), 0);
        Check.reference(desk, ">a\nA\n");
        Check.due("none since then", desk.place(), 0);
        Check.read(desk, 0, Check.FORMAT);
        Check.due("one of a table", desk.place(), 21);
        Check.dueIndex("a call that throws", () -> desk.read(2));
        Check.due("that is no fault", desk.place(), 21);
    }

    private static void theNextReferenceReplacesAll() {
        Desk desk = new Desk();
        Check.reference(desk, ">abc\nACGT\nA\n>b\nC\n");
        Check.due("reference", Check.reference(desk, ">d x\nTT\n"), 1);
        int[] want = {2, 5, 2, 1};
        for (int what = 0; what < 4; what++) {
            Check.due("sequence 0 " + what, desk.sequence(0, what), want[what]);
        }
        Check.due("letter", desk.letter(0, 2), 'T');
        Check.dueIndex("a letter of the one before", () -> desk.letter(0, 3));
        Check.due("name", desk.letter(0, 0), 'd');
        Check.dueIndex("a name's octet of the one before", () -> desk.letter(0, -1));
        Check.dueIndex("a sequence of the one before", () -> desk.sequence(1, 0));
    }

    private static void oneReferenceBehindTheOther() {
        Desk desk = new Desk();
        String[] letters = {"ACGTACG", "TT", "CCC", "G", "ACGT", "N"};
        for (int k = 0; k < letters.length; k++) {
            String name = letters[k].toLowerCase() + k;
            Check.due("reference", Check.reference(desk, ">x\nA\n>" + name + "\n" + letters[k] + "\n"), 2);
            int size = letters[k].length();
            Check.due("letters", desk.sequence(1, 0), size);
            Check.due("width", desk.sequence(1, 2), size);
            Check.due("octets of the name", desk.sequence(1, 3), size + 1);
            Check.due("the first letter", desk.letter(1, 1), letters[k].charAt(0));
            Check.due("the last letter", desk.letter(1, size), letters[k].charAt(size - 1));
            Check.dueIndex("the one behind", () -> desk.letter(1, size + 1));
            Check.due("the other one", desk.sequence(0, 0), 1);
        }
    }

    private static void lettersOfAFaultDoNotCount() {
        Desk desk = new Desk();
        String letters = Check.repeat("A", 1600);
        Check.due("a fault behind 1600 letters", Check.reference(desk, ">a\n" + letters + "!"), -2);
        Check.due("1600 letters", Check.reference(desk, ">a\n" + letters + "\n"), 1);
        Check.due("letters", desk.sequence(0, 0), 1600);
        String eight = sequences(8, "A");
        Check.due("a fault behind eight", Check.reference(desk, eight + ">"), -3);
        Check.due("eight", Check.reference(desk, eight), 8);
    }

    private static void bothTablesHaveNothingThen() {
        Desk desk = Check.desk(">a\nACGT\n", "p", "a 1 . A C . . . GT 1");
        Check.read(desk, 1, Check.table("q r", "a 2 . C . . . . GT 0 0", "a 3 . G . . . . GT 0 0"));
        Check.due("reference, the same one", Check.reference(desk, ">a\nACGT\n"), 1);
        for (int t = 0; t < 2; t++) {
            int table = t;
            Check.due("records", desk.table(t, 0), 0);
            Check.due("samples", desk.table(t, 1), 0);
            Check.due("the name of a sample", desk.table(t, 2), -1);
            Check.dueIndex("record", () -> desk.record(table, 0, 0));
            Check.dueIndex("call", () -> desk.call(table, 0, 0, 0));
            Check.dueIndex("apply", () -> desk.apply(table, 0, 0, 0));
        }
    }
}
