/** Promise 15: account. */
public final class Promise15AccountTest {
    public static void main(String[] args) {
        Ringresonance chip = new Ringresonance();
        chip.part(Ringresonance.LASER, 0, 0, 4, 100);
        chip.part(Ringresonance.COUPLER, 0, 0, 0, 40);
        chip.part(Ringresonance.GUIDE, 0, 0, 3, 10);
        chip.part(Ringresonance.SWITCH, 0, 0, 0, 0b00010000);
        chip.part(Ringresonance.DETECTOR, 0, 0, 0, 0);
        chip.lead(0, 0, 1, 0);
        chip.lead(1, 0, 2, 0);
        chip.lead(2, 0, 3, 0);
        chip.lead(3, 0, 4, 0);
        // Emitted at 0, at the coupler at 1, the guide at 2 to 4, the switch at 5, the detector at 6.
        long[][] want = {
            {100, 0, 0, 0, 100},
            {200, 0, 40, 0, 160},
            {300, 6, 80, 0, 214},
            {400, 12, 120, 0, 268},
            {500, 18, 160, 0, 322},
            {600, 24 + 54, 200, 0, 322},
        };
        for (long[] row : want) {
            chip.run(1);
            for (int what = 0; what < 5; what++) {
                Check.due("account(" + what + ") at " + chip.tick(), chip.account(what), row[what]);
            }
        }
        chip.run(8);
        // The switch is open in the tick 12, the detector sees that in the tick 13.
        Check.due("seen", chip.account(3), 54);
        Check.due("as its detector", chip.account(3), chip.seen(4, 4));
        Check.due("lost", chip.account(1), 12 * 6 + 8 * 54);
        for (int bad : new int[] {-1, 5, Integer.MIN_VALUE, Integer.MAX_VALUE}) {
            Check.refusesUnchanged(chip, 5, "account(" + bad + ")", Check.ARGUMENT, () -> chip.account(bad));
        }
        Check.end();
    }
}
