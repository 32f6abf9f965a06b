/** All that can be seen of a desk, as one text; a desk is made anew whenever the calls of one object end. */
final class Looks {
    private final Check.Maker maker;
    private final StringBuilder text = new StringBuilder();
    private Desk desk;

    private interface Look {
        long at(Desk desk);
    }

    private Looks(Check.Maker maker) {
        this.maker = maker;
        desk = maker.make();
    }

    static String all(Check.Maker maker) {
        Looks looks = new Looks(maker);
        looks.look("place", Desk::place);
        looks.atReference();
        looks.atHaplotype();
        for (int t = 0; t < 2; t++) {
            looks.atTable(t);
        }
        looks.text.append("\nout ").append(Check.longOut(maker));
        for (int t = 0; t < 2; t++) {
            looks.text.append("\nwritten ").append(written(maker, t));
        }
        return looks.text.append("\ntape ").append(tape(maker)).toString();
    }

    private long look(String what, Look look) {
        if (desk.left() == 0) {
            desk = maker.make();
        }
        long[] answer = {VariantDesk.NONE};
        String seen = Check.outcome(() -> answer[0] = look.at(desk));
        text.append(what).append(' ').append(seen).append('\n');
        return answer[0];
    }

    private void atReference() {
        for (int n = 0; n < 8; n++) {
            int s = n;
            for (int k = 0; k < 4; k++) {
                int what = k;
                look("sequence " + s + " " + what, d -> d.sequence(s, what));
            }
            for (int k = -20; k <= 40; k++) {
                int place = k;
                look("letter " + s + " " + place, d -> d.letter(s, place));
            }
        }
    }

    private void atHaplotype() {
        for (int k = 0; k <= 60; k++) {
            int place = k;
            look("carried " + place, d -> d.carried(place));
            look("back " + place, d -> d.back(place));
        }
    }

    private void atTable(int t) {
        for (int k = 0; k < 5; k++) {
            int what = k;
            look("table " + t + " " + what, d -> d.table(t, what));
        }
        long size = look("size", d -> d.table(t, 0));
        for (int i = 0; i < size; i++) {
            atRecord(t, i);
        }
    }

    private void atRecord(int t, int i) {
        for (int k = 0; k < 6; k++) {
            int what = k;
            look("record " + t + " " + i + " " + what, d -> d.record(t, i, what));
        }
        for (int n = 0; n < 4; n++) {
            int row = n;
            long size = look("row " + t + " " + i + " " + row, d -> d.row(t, i, row, -1));
            for (int k = 0; k <= size; k++) {
                int at = k;
                look("letter " + at, d -> d.row(t, i, row, at));
            }
        }
        for (int n = 0; n < 12; n++) {
            int sample = n / 4;
            int what = n % 4;
            look("call " + t + " " + i + " " + sample + " " + what, d -> d.call(t, i, sample, what));
        }
    }

    private static String written(Check.Maker maker, int t) {
        String size = Check.outcome(() -> maker.make().write(t));
        return size + "\n" + Check.longOut(() -> {
            Desk desk = maker.make();
            desk.write(t);
            return desk;
        });
    }

    /** What is on the tape, as a table without its last LINE END: what is read, and what is written of it. */
    private static String tape(Check.Maker maker) {
        Desk desk = maker.make();
        String size = Check.outcome(() -> desk.feed(1, '\n'));
        int answer = desk.read(0);
        return size + " " + answer + " " + desk.place() + "\n" + written(() -> {
            Desk other = maker.make();
            Check.outcome(() -> other.feed(1, '\n'));
            other.read(0);
            return other;
        }, 0);
    }
}
