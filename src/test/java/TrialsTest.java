/** The document's "Trials": a test for each sentence, at its edges. */
public final class TrialsTest {
    private static final int NONE = Ringresonance.NONE;

    public static void main(String[] args) {
        sameParts();
        withoutPhotons();
        withoutPhotonsInGuides();
        nothingOfTheTrialAhead();
        atTheTick0();
        warmAsTargets();
        warmAtTheEnds();
        staysWarm();
        warmByNeighbours();
        noLocks();
        offsetOfEachRing();
        offsetsFromMinus8To8();
        offsetsOnlyOfRings();
        chipDoesNotChange();
        ticksOfATrial();
        manyDetectors();
        yieldsOfOffsets0To7();
        yieldsAtLeast();
        Check.end();
    }

    private static void sameParts() {
        Check.sentence("A trial is on a chip with the same parts as they are now");
        Ringresonance chip = Chips.through(3, 100, Chips.COUPLER, 0, 30, 0);
        Check.due("trial", chip.trial(3, 0, 10), 8 * 30);
        chip.set(1, 100);
        Check.due("with another share", chip.trial(3, 0, 10), 8 * 100);
        chip.set(0, 7);
        Check.due("with another power", chip.trial(3, 0, 10), 8 * 7);
        chip.cut(1, 1);
        Check.due("with an output cut", chip.trial(3, 0, 10), 0);
        chip.lead(0, 0, 3, 0);
        Check.due("with another way", chip.trial(3, 0, 10), 9 * 7);
        int laser = chip.part(Ringresonance.LASER, 0, 0, 4, 50);
        Check.due("with a part that leads nowhere", chip.trial(3, 0, 10), 9 * 7);
        chip.lead(laser, 0, 1, 1);
        Check.due("with a part more", chip.trial(2, 0, 10), 8 * 50);
        chip.lock(chip.part(Ringresonance.RING, 0, 0, 0, 0), 0);
        // A ring that hunted has another heat now.
        Ringresonance hunted = Chips.through(7, 100, Chips.RING, 3, 12, 0);
        hunted.lock(1, 0);
        Check.due("with the heat 12, center 6", hunted.trial(3, 0, 10), 8 * 20);
        hunted.run(4);
        Check.due("with the heat 16, center 7", hunted.trial(3, 0, 10), 8 * 90);
    }

    private static void withoutPhotons() {
        Check.sentence("without photons");
        Ringresonance chip = Chips.through(3, 100, Chips.COUPLER, 0, 0, 0);
        chip.run(10);
        chip.set(0, 0);
        Check.due("on their way on the chip", chip.comes(1, 0, 3) + chip.comes(2, 0, 3), 200);
        Check.due("none of those in a trial", chip.trial(2, 0, 100), 0);
        Check.due("nor those seen", chip.seen(2, 3), 800);
    }

    private static void withoutPhotonsInGuides() {
        Check.sentence("without photons");
        Ringresonance chip = Chips.through(3, 100, Chips.GUIDE, 8, 0, 0);
        for (int i = 0; i < 9; i++) {
            chip.run(1);
            Check.due("a trial of 9 ticks, beside " + chip.account(4), chip.trial(2, 0, 9), 0);
            Check.due("a trial of 10 ticks", chip.trial(2, 0, 10), 100);
        }
        Check.due("inside, on the chip", chip.account(4), 900);
    }

    private static void nothingOfTheTrialAhead() {
        Check.sentence("A trial is on a chip with the same parts as they are now, without photons, at the tick 0");
        Ringresonance chip = Chips.through(3, 100, Chips.GUIDE, 8, 0, 0);
        for (int ticks = 1; ticks <= 20; ticks++) {
            chip.trial(2, 5, 101 - ticks);
            long want = 100 * Math.max(0, ticks - 9);
            Check.due("of " + ticks, chip.trial(2, 0, ticks), want);
            Check.due("of " + ticks + ", again", chip.trial(2, 0, ticks), want);
        }
    }

    private static void atTheTick0() {
        Check.sentence("at the tick 0");
        for (int bit = 0; bit < 8; bit++) {
            Ringresonance chip = Chips.through(3, 1, Chips.SWITCH, 0, 1 << bit, 0);
            // The first photon comes to the switch in the tick 1, and to the detector a tick later.
            int first = bit == 0 ? 8 : bit;
            for (int ran = 0; ran < 4; ran++) {
                Check.due("bit " + bit + ", too short", chip.trial(2, 0, first + 1), 0);
                Check.due("bit " + bit, chip.trial(2, 0, first + 2), 1);
                Check.due("bit " + bit + ", a round more", chip.trial(2, 0, first + 10), 2);
                chip.run(3);
            }
        }
    }

    private static void warmAsTargets() {
        Check.sentence("all rings as warm as their targets");
        for (int heat = 0; heat <= 99; heat += 3) {
            Ringresonance chip = Chips.through(0, 100, Chips.RING, 0, heat, 0);
            int center = 4 * heat / 16 % 8;
            int share = center == 0 ? 90 : center == 1 || center == 7 ? 20 : 0;
            Check.due("heat " + heat, chip.trial(3, 0, 3), share);
            Check.due("while on the chip it is cold", chip.ofPart(1, 3), 0);
        }
    }

    private static void warmAtTheEnds() {
        Check.sentence("all rings as warm as their targets");
        for (int ring : new int[] {0, 15}) {
            Ringresonance chip = new Ringresonance();
            for (int part = 0; part < 16; part++) {
                int kind = part == ring ? Chips.RING : part == 1 ? Chips.LASER : Chips.DETECTOR;
                chip.part(kind, 0, 0, part == 1 ? 5 : 0, part == ring ? 20 : part == 1 ? 100 : 0);
            }
            chip.lead(1, 0, ring, 0);
            chip.lead(ring, 1, 2, 0);
            Check.due("the ring " + ring + ", cold on the chip", chip.trial(2, 0, 3), 90);
            chip.set(ring, 99);
            chip.run(60);
            chip.set(ring, 20);
            Check.due("the ring " + ring + ", hot on the chip", chip.trial(2, 0, 3), 90);
        }
    }

    private static void staysWarm() {
        Check.sentence("all rings as warm as their targets");
        // Far above its target on the chip; in a trial it is at that target, from the first tick on.
        Ringresonance chip = Chips.through(7, 100, Chips.RING, 7, 99, 0);
        chip.run(60);
        chip.set(1, 0);
        Check.due("warmth on the chip", chip.ofPart(1, 3), 396);
        Check.due("trial", chip.trial(3, 0, 3), 90);
        Check.due("trial, at length", chip.trial(3, 0, 100), 98 * 90);
        chip.set(1, 8);
        Check.due("trial of another heat", chip.trial(3, -2, 100), 98 * 90);
        Check.due("warmth on the chip", chip.ofPart(1, 3), 396);
    }

    private static void warmByNeighbours() {
        Check.sentence("all rings as warm as their targets");
        Ringresonance chip = Chips.through(1, 100, Chips.RING, 0, 0, 0);
        chip.part(Ringresonance.RING, 2, 0, 0, 31);
        Check.due("31 at the distance 2: 15", chip.trial(3, 0, 3), 20);
        chip.set(4, 32);
        Check.due("32 at the distance 2: 16", chip.trial(3, 0, 3), 90);
        chip.set(4, 0);
        chip.part(Ringresonance.RING, 0, 0, 0, 16);
        Check.due("16 at the distance 0", chip.trial(3, 0, 3), 90);
        chip.set(5, 15);
        Check.due("15 at the distance 0", chip.trial(3, 0, 3), 20);
        chip.set(4, 2);
        Check.due("15 and 1", chip.trial(3, 0, 3), 90);
    }

    private static void noLocks() {
        Check.sentence("no locks");
        Ringresonance chip = Chips.through(3, 100, Chips.RING, 3, 3, 0);
        chip.lock(1, 0);
        // A hunting ring would be at a heat of 4 behind the first tick, and its center one above.
        Check.due("trial", chip.trial(3, 0, 100), 98 * 90);
        Check.due("locked on the chip", chip.ofPart(1, 4), 0);
        Check.due("none lost on the chip", chip.ofPart(1, 5), 0);
        Check.due("heat on the chip", chip.ofPart(1, 1), 3);
        chip.run(7);
        Check.due("the ticks of a trial do not count for the lock", chip.ofPart(1, 4), 0);
        chip.trial(3, 0, 100);
        chip.run(1);
        Check.due("nor do they keep it", chip.ofPart(1, 4), NONE);
    }

    private static void offsetOfEachRing() {
        Check.sentence("an offset that is added to each ring's center");
        Ringresonance chip = new Ringresonance();
        chip.part(Ringresonance.RING, 0, 0, 2, 0);
        chip.part(Ringresonance.RING, 15, 15, 2, 0);
        chip.part(Ringresonance.LASER, 0, 0, 4, 100);
        chip.part(Ringresonance.DETECTOR, 0, 0, 0, 0);
        chip.lead(2, 0, 0, 0);
        chip.lead(0, 1, 1, 0);
        chip.lead(1, 1, 3, 0);
        long[] wants = {0, 4, 81, 4, 0, 0, 0, 0};
        for (int offset = -8; offset <= 8; offset++) {
            Check.due("offset " + offset, chip.trial(3, offset, 4), wants[(offset + 8) % 8]);
        }
    }

    private static void offsetsFromMinus8To8() {
        Check.sentence("an offset of -8 and of 8");
        int[] shares = {90, 20, 0, 0, 0, 0, 0, 20};
        for (int base = 0; base < 8; base++) {
            Ringresonance chip = Chips.through(0, 100, Chips.RING, base, 0, 0);
            long without = chip.trial(3, 0, 3);
            Check.due("offset 0 of the base " + base, without, shares[base]);
            Check.due("offset -8 of the base " + base, chip.trial(3, -8, 3), without);
            Check.due("offset 8 of the base " + base, chip.trial(3, 8, 3), without);
            Check.due("offset -7 as 1", chip.trial(3, -7, 3), chip.trial(3, 1, 3));
            Check.due("offset 7 as -1", chip.trial(3, 7, 3), chip.trial(3, -1, 3));
            Check.due("offset -1", chip.trial(3, -1, 3), shares[(base + 7) % 8]);
            Check.due("offset 1", chip.trial(3, 1, 3), shares[(base + 1) % 8]);
            Check.refuses("offset -9", Check.ARGUMENT, () -> chip.trial(3, -9, 3));
            Check.refuses("offset 9", Check.ARGUMENT, () -> chip.trial(3, 9, 3));
        }
        // With warmth, too: the base 7, 24 of 396, and the offset together.
        Ringresonance hot = Chips.through(0, 100, Chips.RING, 7, 99, 0);
        for (int offset = -8; offset <= 8; offset++) {
            Check.due("hot, offset " + offset, hot.trial(3, offset, 3), shares[(7 + 24 + offset + 8) % 8]);
        }
    }

    private static void offsetsOnlyOfRings() {
        Check.sentence("an offset that is added to each ring's center");
        Ringresonance chip = Chips.through(5, 100, Chips.COUPLER, 0, 33, 0);
        for (int offset = -8; offset <= 8; offset++) {
            Check.due("a coupler at the offset " + offset, chip.trial(3, offset, 3), 33);
        }
        Check.due("all offsets alike", chip.yields(3, 3, 33), 8);
        Check.due("all offsets alike", chip.yields(3, 3, 34), 0);
    }

    private static void chipDoesNotChange() {
        Check.sentence("The chip itself does not change by that.");
        for (int offset : new int[] {-8, 0, 8}) {
            for (int ticks : new int[] {1, 2, 100}) {
                Check.asksOnly(Chips::busy, Chips.BUSY, "trial(7, " + offset + ", " + ticks + ")",
                        x -> x.trial(7, offset, ticks));
            }
        }
        for (int ticks : new int[] {1, 2, 100}) {
            Check.asksOnly(Chips::busy, Chips.BUSY, "yields(8, " + ticks + ", 1)", x -> x.yields(8, ticks, 1));
        }
        Check.asksOnly(Chips::full, 16, "trial(7, -3, 50)", x -> x.trial(7, -3, 50));
        Check.asksOnly(Chips::ended, 2, "trial(1, 8, 100)", x -> x.trial(1, 8, 100));
        Check.asksOnly(Chips::ended, 2, "yields(1, 100, 0)", x -> x.yields(1, 100, 0));
        Ringresonance chip = Chips.busy();
        int center = chip.ofPart(4, 2);
        chip.trial(7, 5, 10);
        Check.due("the center on the chip", chip.ofPart(4, 2), center);
    }

    private static void ticksOfATrial() {
        Check.sentence("ticks: 1 to 100");
        Ringresonance chip = new Ringresonance();
        chip.part(Ringresonance.LASER, 0, 0, 3, 999);
        chip.part(Ringresonance.DETECTOR, 0, 0, 0, 0);
        chip.lead(0, 0, 1, 0);
        for (int ticks = 1; ticks <= 100; ticks++) {
            Check.due("seen in " + ticks, chip.trial(1, 0, ticks), (ticks - 1) * 999);
        }
    }

    private static void manyDetectors() {
        Check.sentence("Returns how many, of all channels.");
        Ringresonance chip = new Ringresonance();
        chip.part(Ringresonance.LASER, 0, 0, 0, 10);
        chip.part(Ringresonance.LASER, 0, 0, 7, 20);
        chip.part(Ringresonance.COUPLER, 0, 0, 0, 50);
        chip.part(Ringresonance.DETECTOR, 0, 0, 0, 0);
        chip.part(Ringresonance.DETECTOR, 0, 0, 0, 0);
        chip.part(Ringresonance.DETECTOR, 0, 0, 0, 0);
        chip.lead(0, 0, 2, 0);
        chip.lead(1, 0, 2, 1);
        chip.lead(2, 0, 3, 0);
        chip.lead(2, 1, 4, 0);
        chip.set(2, 40);
        Check.due("6 and 8", chip.trial(3, 0, 3), 14);
        Check.due("4 and 12", chip.trial(4, 0, 3), 16);
        Check.due("a detector to which none leads", chip.trial(5, 0, 100), 0);
        Check.due("yields of that, need 0", chip.yields(5, 100, 0), 8);
        Check.due("yields of that, need 1", chip.yields(5, 100, 1), 0);
    }

    private static void yieldsOfOffsets0To7() {
        Check.sentence("Returns for how many of the offsets 0 to 7 a detector would see at least so many photons.");
        // Each base fits at one of the offsets 0 to 7, and is beside at two.
        for (int base = 0; base < 8; base++) {
            Ringresonance chip = Chips.through(0, 100, Chips.RING, base, 0, 0);
            Check.due("need 0", chip.yields(3, 3, 0), 8);
            Check.due("need 1", chip.yields(3, 3, 1), 3);
            Check.due("need 90", chip.yields(3, 3, 90), 1);
            Check.due("need 91", chip.yields(3, 3, 91), 0);
            Check.due("the other output, need 10", chip.yields(2, 3, 10), 8);
            Check.due("the other output, need 11", chip.yields(2, 3, 11), 7);
            Check.due("the other output, need 81", chip.yields(2, 3, 81), 5);
        }
    }

    private static void yieldsAtLeast() {
        Check.sentence("at least so many photons");
        Ringresonance chip = Chips.busy();
        long[] seen = new long[8];
        for (int offset = 0; offset < 8; offset++) {
            seen[offset] = chip.trial(8, offset, 30);
        }
        for (long need : seen) {
            for (long by = -1; by <= 1; by++) {
                int want = 0;
                for (long one : seen) {
                    want += one >= need + by ? 1 : 0;
                }
                if (need + by >= 0) {
                    Check.due("need " + (need + by), chip.yields(8, 30, need + by), want);
                }
            }
        }
    }
}
