/** Promise 8: spacing. */
public final class Promise08SpacingTest {
    public static void main(String[] args) {
        Ringresonance chip = new Ringresonance();
        chip.part(0, 0, 0, 0, 0);
        chip.part(0, 0, 0, 0, 0);
        Check.due("spacing(15)", chip.spacing(15), 1);
        for (int bad : new int[] {-1, 16, Integer.MIN_VALUE, Integer.MAX_VALUE}) {
            Check.refusesUnchanged(chip, 2, "spacing(" + bad + ")", Check.ARGUMENT, () -> chip.spacing(bad));
        }
        Check.due("spacing(0)", chip.spacing(0), 15);
        Check.due("conflicts at 0", chip.conflicts(), 0);
        Check.due("spacing(0)", chip.spacing(0), 0);
        Check.due("spacing(1)", chip.spacing(1), 0);
        Check.due("conflicts at 1", chip.conflicts(), 1);
        Check.end();
    }
}
