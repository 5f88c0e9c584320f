/** Promise 14: seen. */
public final class Promise14SeenTest {
    public static void main(String[] args) {
        Ringresonance chip = new Ringresonance();
        chip.part(Ringresonance.LASER, 0, 0, 0, 3);
        chip.part(Ringresonance.LASER, 0, 0, 7, 5);
        chip.part(Ringresonance.COUPLER, 0, 0, 0, 100);
        chip.part(Ringresonance.DETECTOR, 0, 0, 0, 0);
        chip.part(Ringresonance.DETECTOR, 0, 0, 0, 0);
        chip.lead(0, 0, 2, 0);
        chip.lead(1, 0, 2, 1);
        chip.lead(2, 0, 3, 0);
        chip.lead(2, 1, 4, 0);
        chip.run(2);
        Check.due("none yet", chip.seen(3, -1), 0);
        chip.run(10);
        chip.set(2, 0);
        chip.run(1);
        chip.run(2);
        for (int channel = 0; channel < 8; channel++) {
            Check.due("channel " + channel, chip.seen(3, channel), channel == 0 ? 6 : channel == 7 ? 55 : 0);
            Check.due("channel " + channel, chip.seen(4, channel), channel == 0 ? 33 : channel == 7 ? 10 : 0);
        }
        Check.due("all", chip.seen(3, Ringresonance.NONE), 61);
        Check.due("all", chip.seen(4, Ringresonance.NONE), 43);
        refusals(chip);
        Check.end();
    }

    private static void refusals(Ringresonance chip) {
        for (int bad : new int[] {-1, 5, 16, Integer.MIN_VALUE, Integer.MAX_VALUE}) {
            Check.refuses("part " + bad, Check.INDEX, () -> chip.seen(bad, 0));
            Check.refuses("part " + bad + ", channel 8", Check.INDEX, () -> chip.seen(bad, 8));
        }
        for (int bad : new int[] {-2, 8, Integer.MIN_VALUE, Integer.MAX_VALUE}) {
            Check.refusesUnchanged(chip, 5, "channel " + bad, Check.ARGUMENT, () -> chip.seen(3, bad));
            Check.refuses("channel " + bad + " of a laser", Check.ARGUMENT, () -> chip.seen(0, bad));
        }
        for (int part = 0; part < 3; part++) {
            int other = part;
            Check.refuses("part " + part, Check.STATE, () -> chip.seen(other, 0));
            Check.refuses("part " + part + ", all", Check.STATE, () -> chip.seen(other, -1));
        }
    }
}
