/** Promise 6: lock, and how locked rings hunt. */
public final class Promise06LockTest {
    private static final int LASER = 0;
    private static final int RING = 1;

    public static void main(String[] args) {
        answers();
        refusals();
        huntsAndTurns();
        losesIn8();
        aLitTickBetween();
        lockedAnew();
        letGo();
        heldAt99();
        onlyItsChannel();
        bothInputs();
        afterTheWarmth();
        Check.end();
    }

    /** A laser of 100 photons of the channel 3 at the input 0 of a ring of the base 3. */
    private static Ringresonance lit(int heat) {
        Ringresonance chip = new Ringresonance();
        chip.part(Ringresonance.LASER, 0, 0, 3, 100);
        chip.part(Ringresonance.RING, 5, 5, 3, heat);
        chip.lead(LASER, 0, RING, 0);
        return chip;
    }

    private static int heat(Ringresonance chip) {
        return chip.ofPart(RING, 1);
    }

    private static void answers() {
        Ringresonance chip = lit(0);
        Check.due("not locked", chip.ofPart(RING, 4), -1);
        Check.due("lock on 0", chip.lock(RING, 0), -1);
        Check.due("lock on 7", chip.lock(RING, 7), 0);
        Check.due("locked on", chip.ofPart(RING, 4), 7);
        Check.due("let go", chip.lock(RING, Ringresonance.NONE), 7);
        Check.due("let go again", chip.lock(RING, Ringresonance.NONE), -1);
        Check.due("a lock let go is not lost", chip.ofPart(RING, 5), 0);
    }

    private static void refusals() {
        Ringresonance chip = lit(0);
        chip.lock(RING, 3);
        for (int bad : new int[] {-2, 8, Integer.MIN_VALUE, Integer.MAX_VALUE}) {
            Check.refusesUnchanged(chip, 2, "channel " + bad, Check.ARGUMENT, () -> chip.lock(RING, bad));
            Check.refuses("channel " + bad + " of no ring", Check.ARGUMENT, () -> chip.lock(LASER, bad));
        }
        for (int bad : new int[] {-1, 2, 16, Integer.MIN_VALUE, Integer.MAX_VALUE}) {
            Check.refuses("part " + bad, Check.INDEX, () -> chip.lock(bad, 0));
            Check.refuses("part " + bad + ", channel 8", Check.INDEX, () -> chip.lock(bad, 8));
        }
        for (int kind = 0; kind < 6; kind++) {
            int part = chip.part(kind, 0, 0, kind == Ringresonance.GUIDE ? 1 : 0, 0);
            if (kind != Ringresonance.RING) {
                Check.refuses("kind " + kind, Check.STATE, () -> chip.lock(part, 0));
                Check.refuses("kind " + kind + ", NONE", Check.STATE, () -> chip.lock(part, -1));
            }
        }
    }

    private static void huntsAndTurns() {
        Ringresonance chip = lit(0);
        chip.run(2);
        chip.lock(RING, 3);
        chip.run(1);
        Check.due("90 is not fewer than 0", heat(chip), 1);
        chip.set(LASER, 50);
        chip.run(1);
        Check.due("as many as ahead", heat(chip), 2);
        chip.run(1);
        Check.due("45 after 90, turned", heat(chip), 1);
        chip.set(LASER, 100);
        chip.run(1);
        Check.due("45 again, not turned", heat(chip), 0);
        chip.run(1);
        Check.due("more, not turned, held at 0", heat(chip), 0);
        chip.set(LASER, 99);
        chip.run(1);
        Check.due("held at 0", heat(chip), 0);
        chip.run(1);
        Check.due("89 after 90, turned back", heat(chip), 1);
        Check.due("still locked", chip.ofPart(RING, 4), 3);
    }

    private static void losesIn8() {
        Ringresonance chip = lit(40);
        chip.set(LASER, 0);
        chip.lock(RING, 3);
        chip.run(7);
        Check.due("locked after 7 dark ticks", chip.ofPart(RING, 4), 3);
        Check.due("heat after 7", heat(chip), 47);
        chip.run(1);
        Check.due("lost after 8", chip.ofPart(RING, 4), -1);
        Check.due("lost locks", chip.ofPart(RING, 5), 1);
        Check.due("heat changed ahead of the loss", heat(chip), 48);
        chip.run(10);
        Check.due("no more hunting", heat(chip), 48);
        chip.lock(RING, 2);
        chip.run(8);
        Check.due("lost locks", chip.ofPart(RING, 5), 2);
        Check.due("its direction was 1 anew", heat(chip), 56);
    }

    private static void aLitTickBetween() {
        Ringresonance chip = lit(0);
        chip.set(LASER, 0);
        chip.lock(RING, 3);
        chip.run(6);
        chip.set(LASER, 2);
        chip.run(1);
        chip.set(LASER, 0);
        chip.run(1);
        chip.run(7);
        Check.due("7 dark, 1 lit, 7 dark", chip.ofPart(RING, 4), 3);
        chip.run(1);
        Check.due("then the 8th dark", chip.ofPart(RING, 4), -1);
        Check.due("lost locks", chip.ofPart(RING, 5), 1);
    }

    private static void lockedAnew() {
        Ringresonance chip = lit(0);
        chip.run(3);
        chip.lock(RING, 3);
        chip.run(2);
        chip.set(LASER, 0);
        chip.run(2);
        Check.due("turned at the first dark tick", heat(chip), 2);
        chip.lock(RING, 3);
        chip.run(1);
        Check.due("direction 1 and 0 ahead, anew", heat(chip), 3);
        chip.run(6);
        Check.due("heat of 7 ticks", heat(chip), 9);
        Check.due("7 dark ticks since", chip.ofPart(RING, 4), 3);
        chip.run(1);
        Check.due("8 dark ticks since", chip.ofPart(RING, 4), -1);
        Ringresonance fading = lit(0);
        fading.run(2);
        fading.lock(RING, 3);
        fading.set(LASER, 50);
        fading.run(1);
        fading.lock(RING, 3);
        fading.run(1);
        Check.due("45 is not fewer than 0, though 90 were given over ahead", heat(fading), 2);
    }

    private static void letGo() {
        Ringresonance chip = lit(10);
        chip.lock(RING, 5);
        chip.run(5);
        chip.lock(RING, Ringresonance.NONE);
        chip.run(20);
        Check.due("hunts no more", heat(chip), 15);
        Check.due("none lost", chip.ofPart(RING, 5), 0);
    }

    private static void heldAt99() {
        Ringresonance chip = lit(97);
        chip.lock(RING, 0);
        chip.set(LASER, 0);
        chip.run(2);
        Check.due("99", heat(chip), 99);
        chip.run(6);
        Check.due("held", heat(chip), 99);
        Check.due("lost", chip.ofPart(RING, 5), 1);
    }

    private static void onlyItsChannel() {
        Ringresonance chip = lit(0);
        chip.run(1);
        chip.lock(RING, 5);
        chip.run(8);
        Check.due("another channel's light does not keep it", chip.ofPart(RING, 4), -1);
        // At power 4, of the channel beside the center 4 * 20 / 100 are given over: none.
        Ringresonance faint = new Ringresonance();
        faint.part(Ringresonance.LASER, 0, 0, 2, 4);
        faint.part(Ringresonance.RING, 5, 5, 3, 0);
        faint.lead(LASER, 0, RING, 1);
        faint.run(1);
        faint.lock(RING, 2);
        faint.run(8);
        Check.due("none were given over", faint.ofPart(RING, 5), 1);
        Ringresonance enough = new Ringresonance();
        enough.part(Ringresonance.LASER, 0, 0, 2, 5);
        enough.part(Ringresonance.RING, 5, 5, 3, 0);
        enough.lead(LASER, 0, RING, 1);
        enough.run(1);
        enough.lock(RING, 2);
        enough.run(8);
        Check.due("one a tick was given over", enough.ofPart(RING, 5), 0);
    }

    private static void bothInputs() {
        Ringresonance chip = lit(0);
        int other = chip.part(Ringresonance.LASER, 0, 0, 3, 0);
        chip.lead(other, 0, RING, 1);
        chip.run(1);
        chip.lock(RING, 3);
        chip.run(1);
        Check.due("90 of the input 0", heat(chip), 1);
        chip.set(LASER, 40);
        chip.set(other, 60);
        chip.run(2);
        Check.due("90 of both inputs, not turned", heat(chip), 3);
        chip.set(other, 50);
        chip.run(2);
        Check.due("81 of both inputs, turned", heat(chip), 3);
    }

    private static void afterTheWarmth() {
        Ringresonance chip = new Ringresonance();
        chip.part(Ringresonance.RING, 0, 0, 0, 0);
        chip.part(Ringresonance.RING, 0, 0, 0, 0);
        chip.lock(0, 0);
        chip.lock(1, 0);
        chip.run(1);
        Check.due("warmth ahead of the hunt", chip.ofPart(0, 3), 0);
        Check.due("nor of a neighbour's", chip.ofPart(1, 3), 0);
        Check.due("heat", chip.ofPart(0, 1), 1);
        chip.run(1);
        Check.due("towards 5", chip.ofPart(1, 3), 1);
        Check.due("heat", chip.ofPart(1, 1), 2);
    }
}
