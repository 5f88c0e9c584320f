/** Promise 10: trial. */
public final class Promise10TrialTest {
    public static void main(String[] args) {
        refusals();
        asAFreshChip();
        warmAsTargets();
        offsets();
        tickZeroAndNoLocks();
        partsAsTheyAreNow();
        changesNothing();
        Check.end();
    }

    /** A laser of the channel 7, a ring of the base 3 and a detector behind what it takes over. */
    private static Ringresonance filter(int heat) {
        Ringresonance chip = new Ringresonance();
        chip.part(Ringresonance.LASER, 0, 0, 7, 100);
        chip.part(Ringresonance.RING, 0, 0, 3, heat);
        chip.part(Ringresonance.DETECTOR, 0, 0, 0, 0);
        chip.lead(0, 0, 1, 0);
        chip.lead(1, 1, 2, 0);
        return chip;
    }

    private static void refusals() {
        Ringresonance chip = filter(16);
        for (int bad : new int[] {-1, 3, 16, Integer.MIN_VALUE, Integer.MAX_VALUE}) {
            Check.refuses("part " + bad, Check.INDEX, () -> chip.trial(bad, 0, 1));
            Check.refuses("part " + bad + ", bad others", Check.INDEX, () -> chip.trial(bad, 9, 0));
        }
        for (int bad : new int[] {-9, 9, Integer.MIN_VALUE, Integer.MAX_VALUE}) {
            Check.refusesUnchanged(chip, 3, "offset " + bad, Check.ARGUMENT, () -> chip.trial(2, bad, 1));
            Check.refuses("offset " + bad + " of a ring", Check.ARGUMENT, () -> chip.trial(1, bad, 1));
        }
        for (int bad : new int[] {0, -1, 101, Integer.MIN_VALUE, Integer.MAX_VALUE}) {
            Check.refuses("ticks " + bad, Check.ARGUMENT, () -> chip.trial(2, 0, bad));
            Check.refuses("ticks " + bad + " of a ring", Check.ARGUMENT, () -> chip.trial(1, 0, bad));
        }
        Check.refuses("a laser", Check.STATE, () -> chip.trial(0, 0, 1));
        Check.refuses("a ring", Check.STATE, () -> chip.trial(1, 0, 1));
        Check.due("the least", chip.trial(2, -8, 1), 0);
        Check.due("the most", chip.trial(2, 8, 100), 98 * 90);
    }

    private static void asAFreshChip() {
        for (int ticks = 1; ticks <= 30; ticks++) {
            Ringresonance chip = new Ringresonance();
            chip.part(Ringresonance.LASER, 0, 0, 1, 99);
            chip.part(Ringresonance.LASER, 0, 0, 2, 77);
            chip.part(Ringresonance.COUPLER, 0, 0, 0, 35);
            chip.part(Ringresonance.GUIDE, 0, 0, 4, 7);
            chip.part(Ringresonance.SWITCH, 0, 0, 0, 0b01101101);
            chip.part(Ringresonance.DETECTOR, 0, 0, 0, 0);
            chip.lead(0, 0, 2, 0);
            chip.lead(2, 0, 3, 0);
            chip.lead(2, 1, 2, 1);
            chip.lead(3, 0, 4, 0);
            chip.lead(4, 0, 5, 0);
            long tried = chip.trial(5, 0, ticks);
            chip.run(ticks);
            Check.due("seen in " + ticks, chip.seen(5, -1), tried);
            Check.due("tried later", chip.trial(5, 0, ticks), tried);
            chip.trial(5, 3, 100);
            Check.due("tried behind another trial", chip.trial(5, 0, ticks), tried);
        }
    }

    private static void warmAsTargets() {
        Ringresonance chip = filter(16);
        // The target 64 brings the center from 3 to 7.
        Check.due("2 ticks", chip.trial(2, 0, 2), 0);
        Check.due("3 ticks", chip.trial(2, 0, 3), 90);
        Check.due("50 ticks", chip.trial(2, 0, 50), 48 * 90);
        chip.set(1, 15);
        Check.due("a target of 60", chip.trial(2, 0, 50), 48 * 20);
        chip.part(Ringresonance.RING, 2, 2, 0, 16);
        Check.due("a neighbour's heat of 4", chip.trial(2, 0, 50), 48 * 90);
        chip.set(3, 15);
        Check.due("a neighbour's heat of 3", chip.trial(2, 0, 50), 48 * 20);
    }

    private static void offsets() {
        int[] shares = {90, 20, 0, 0, 0, 0, 0, 20};
        Ringresonance chip = filter(16);
        for (int offset = -8; offset <= 8; offset++) {
            int share = shares[Math.floorMod(offset, 8)];
            Check.due("offset " + offset, chip.trial(2, offset, 10), 8 * share);
        }
        // A center of 5 reaches the channel 7 by an offset of 2 more, not of 2 less.
        Ringresonance below = new Ringresonance();
        below.part(Ringresonance.RING, 0, 0, 5, 0);
        below.part(Ringresonance.LASER, 0, 0, 7, 100);
        below.part(Ringresonance.DETECTOR, 0, 0, 0, 0);
        below.lead(1, 0, 0, 1);
        below.lead(0, 0, 2, 0);
        Check.due("offset 2 more", below.trial(2, 2, 10), 8 * 90);
        Check.due("offset 2 less", below.trial(2, -2, 10), 0);
        below.set(0, 8);
        Check.due("the part 0 is as warm as its target, too", below.trial(2, 0, 10), 8 * 90);
    }

    private static void tickZeroAndNoLocks() {
        Ringresonance chip = new Ringresonance();
        chip.part(Ringresonance.LASER, 0, 0, 0, 1);
        chip.part(Ringresonance.SWITCH, 0, 0, 0, 0b10);
        chip.part(Ringresonance.DETECTOR, 0, 0, 0, 0);
        chip.lead(0, 0, 1, 0);
        chip.lead(1, 0, 2, 0);
        chip.run(5);
        Check.due("the tick 1 of the trial", chip.trial(2, 0, 3), 1);
        Check.due("and 9", chip.trial(2, 0, 11), 2);
        Ringresonance locked = filter(16);
        locked.lock(1, 0);
        // A hunting ring would leave the channel 7.
        Check.due("no lock in a trial", locked.trial(2, 0, 100), 98 * 90);
        Check.due("but on the chip", locked.ofPart(1, 4), 0);
    }

    private static void partsAsTheyAreNow() {
        Ringresonance chip = filter(16);
        chip.cut(1, 1);
        Check.due("cut", chip.trial(2, 0, 50), 0);
        chip.lead(1, 0, 2, 0);
        Check.due("the other output", chip.trial(2, 0, 50), 48 * 10);
        chip.set(0, 10);
        Check.due("another power", chip.trial(2, 0, 50), 48);
        chip.lock(1, 0);
        chip.run(4);
        Check.due("a heat of 20 by hunting: target 80, center 0", chip.trial(2, 0, 50), 48 * 8);
    }

    private static void changesNothing() {
        Ringresonance chip = filter(16);
        Ringresonance twin = filter(16);
        chip.lock(1, 6);
        twin.lock(1, 6);
        for (int i = 0; i < 5; i++) {
            chip.run(3);
            twin.run(3);
            String before = Check.tells(chip, 3);
            chip.trial(2, i % 9, 20 + i);
            Check.same("the chip behind a trial", Check.tells(chip, 3), before);
            Check.same("the chip as its twin", Check.tells(chip, 3), Check.tells(twin, 3));
        }
    }
}
