/** Promise 9: conflicts. */
public final class Promise09ConflictsTest {
    public static void main(String[] args) {
        Ringresonance chip = new Ringresonance();
        chip.part(0, 5, 5, 0, 0);
        Check.due("one part", chip.conflicts(), 0);
        chip.part(1, 5, 5, 1, 0);
        Check.due("two at one place", chip.conflicts(), 1);
        chip.part(2, 6, 4, 0, 0);
        Check.due("a third at the distance 2", chip.conflicts(), 1);
        chip.spacing(2);
        Check.due("2 is not below 2", chip.conflicts(), 1);
        chip.spacing(3);
        Check.due("2 is below 3", chip.conflicts(), 3);
        chip.part(3, 4, 6, 0, 0);
        Check.due("distances 2, 2 and 4", chip.conflicts(), 5);
        chip.spacing(4);
        Check.due("4 is not below 4", chip.conflicts(), 5);
        chip.spacing(5);
        Check.due("4 is below 5", chip.conflicts(), 6);
        chip.spacing(0);
        Check.due("none below 0", chip.conflicts(), 0);
        full();
        Check.end();
    }

    private static void full() {
        Ringresonance chip = new Ringresonance();
        for (int i = 0; i < 16; i++) {
            chip.part(5, 7, 7, 0, 0);
        }
        Check.due("all 16 at one place", chip.conflicts(), 120);
        Ringresonance row = new Ringresonance();
        for (int i = 0; i < 16; i++) {
            row.part(5, 0, i, 0, 0);
        }
        row.spacing(2);
        Check.due("a column with gaps of 1", row.conflicts(), 15);
        row.spacing(15);
        Check.due("all but the ends", row.conflicts(), 119);
    }
}
