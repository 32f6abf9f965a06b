/**
 * Tables whose texts are near the limit of 8000 octets. One object's 512 calls can feed only half as many, so the
 * records are fed once, and copies of them (by write, again and read) are made others and merged with them.
 */
final class Big {
    static final int LEAST = 7991;
    static final int MOST = 8010;

    private static final String NAME = "abcdefghijklmnopqrst";
    private static final String ID = "abcdefghijklmnopq";
    private static final int FED = 15;

    private Big() {
    }

    /** A desk whose table 0 has 60 records, 3 samples and a text of that many octets; table 1 has nothing. */
    static Desk desk(int octets) {
        Desk desk = Check.desk(">" + NAME + "\nGA\n", "", fedRecords());
        copyToTable1(desk);
        desk.split(1);
        Check.due("the alts in other groups", desk.join(1), FED);
        Check.due("these are other records", desk.merge(), 0);
        copyToTable1(desk);
        Check.due("all can go to the left", desk.normalise(1), 2 * FED);
        Check.due("these are other records, too", desk.merge(), 0);
        String lastName = Check.repeat("z", octets - LEAST + 1);
        Check.read(desk, 1, Check.table(NAME + " " + NAME.toUpperCase() + " " + lastName));
        Check.due("samples for all of them", desk.merge(), 0);
        return desk;
    }

    /** The same, with its text on the tape. */
    static Desk onTape(int octets) {
        Desk desk = desk(octets);
        Check.due("write", desk.write(0), octets);
        Check.due("again", desk.again(), octets);
        return desk;
    }

    private static void copyToTable1(Desk desk) {
        desk.write(0);
        desk.again();
        desk.read(1);
    }

    /** The first one has two alts, the others three, so that joining all alts from left to right groups them otherwise. */
    private static String[] fedRecords() {
        String[] records = new String[FED];
        int alts = 0;
        for (int i = 0; i < FED; i++) {
            StringBuilder row = new StringBuilder();
            for (int k = i == 0 ? 1 : 0; k < 3; k++) {
                row.append(row.length() > 0 ? "," : "").append(alt(alts++));
            }
            records[i] = NAME + " 2 " + ID + " A " + row + " . . .";
        }
        return records;
    }

    /** 24 letters, others for each number below 81; the last one is that of REF, and can go once. */
    private static String alt(int number) {
        StringBuilder text = new StringBuilder(Check.repeat("C", 19));
        for (int power = 27; power > 0; power /= 3) {
            text.append("ACT".charAt(number / power % 3));
        }
        return text.append("A").toString();
    }
}
