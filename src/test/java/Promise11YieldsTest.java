/** Promise 11: yields. */
public final class Promise11YieldsTest {
    public static void main(String[] args) {
        Ringresonance chip = new Ringresonance();
        chip.part(Ringresonance.LASER, 0, 0, 7, 100);
        chip.part(Ringresonance.RING, 0, 0, 2, 16);
        chip.part(Ringresonance.DETECTOR, 0, 0, 0, 0);
        chip.part(Ringresonance.DETECTOR, 0, 0, 0, 0);
        chip.lead(0, 0, 1, 0);
        chip.lead(1, 1, 2, 0);
        chip.lead(1, 0, 3, 0);
        // The center is 6 at the offset 0: one offset gives 90 a tick, two give 20, five none.
        Check.due("need 0", chip.yields(2, 12, 0), 8);
        Check.due("need 1", chip.yields(2, 12, 1), 3);
        Check.due("need 200", chip.yields(2, 12, 200), 3);
        Check.due("need 201", chip.yields(2, 12, 201), 1);
        Check.due("need 900", chip.yields(2, 12, 900), 1);
        Check.due("need 901", chip.yields(2, 12, 901), 0);
        Check.due("need of the most", chip.yields(2, 12, Long.MAX_VALUE), 0);
        Check.due("a need beyond an int", chip.yields(2, 12, 1L << 32), 0);
        Check.due("too few ticks", chip.yields(2, 2, 1), 0);
        Check.due("just enough ticks", chip.yields(2, 3, 1), 3);
        Check.due("1 tick", chip.yields(2, 1, 0), 8);
        Check.due("100 ticks", chip.yields(2, 100, 98 * 90), 1);
        Check.due("the other detector, all", chip.yields(3, 12, 100), 8);
        Check.due("the other detector, 1000", chip.yields(3, 12, 1000), 5);
        Check.due("the other detector, 800", chip.yields(3, 12, 800), 7);
        refusals(chip);
        changesNothing(chip);
        Check.end();
    }

    private static void refusals(Ringresonance chip) {
        for (int bad : new int[] {-1, 4, 16, Integer.MIN_VALUE, Integer.MAX_VALUE}) {
            Check.refuses("part " + bad, Check.INDEX, () -> chip.yields(bad, 1, 0));
            Check.refuses("part " + bad + ", bad others", Check.INDEX, () -> chip.yields(bad, 0, -1));
        }
        for (int bad : new int[] {0, -1, 101, Integer.MIN_VALUE, Integer.MAX_VALUE}) {
            Check.refuses("ticks " + bad, Check.ARGUMENT, () -> chip.yields(2, bad, 0));
            Check.refuses("ticks " + bad + " of a ring", Check.ARGUMENT, () -> chip.yields(1, bad, 0));
        }
        for (long bad : new long[] {-1, Long.MIN_VALUE}) {
            Check.refusesUnchanged(chip, 4, "need " + bad, Check.ARGUMENT, () -> chip.yields(2, 1, bad));
            Check.refuses("need " + bad + " of a ring", Check.ARGUMENT, () -> chip.yields(1, 1, bad));
        }
        Check.refuses("a laser", Check.STATE, () -> chip.yields(0, 1, 0));
        Check.refuses("a ring", Check.STATE, () -> chip.yields(1, 1, 0));
    }

    private static void changesNothing(Ringresonance chip) {
        chip.run(7);
        String before = Check.tells(chip, 4);
        chip.yields(2, 50, 10);
        Check.same("the chip behind yields", Check.tells(chip, 4), before);
    }
}
