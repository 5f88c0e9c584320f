/** Promise 7: run, and what each kind of part does in a tick. */
public final class Promise07RunTest {
    public static void main(String[] args) {
        ranges();
        most();
        laser();
        guides();
        guideLoss();
        coupler();
        couplerRounds();
        ring();
        ringTurnsWithItsWarmth();
        centerBySixteens();
        huntsBehindWarmths();
        switches();
        loops();
        warmth();
        neighbours();
        manyChannels();
        Check.end();
    }

    private static void ranges() {
        Ringresonance chip = new Ringresonance();
        chip.part(Ringresonance.LASER, 0, 0, 0, 3);
        for (int bad : new int[] {0, -1, 101, Integer.MIN_VALUE, Integer.MAX_VALUE}) {
            Check.refusesUnchanged(chip, 1, "run(" + bad + ")", Check.ARGUMENT, () -> chip.run(bad));
        }
        Check.due("run(1)", chip.run(1), 1);
        Check.due("run(100)", chip.run(100), 101);
        Check.due("emitted", chip.account(0), 303);
    }

    private static void most() {
        Ringresonance chip = new Ringresonance();
        chip.part(Ringresonance.LASER, 0, 0, 0, 999);
        for (int i = 1; i < 200; i++) {
            Check.due("run(100)", chip.run(100), 100 * i);
        }
        chip.run(50);
        Check.refusesUnchanged(chip, 1, "run(51) at 19950", Check.STATE, () -> chip.run(51));
        Check.due("run(50) at 19950", chip.run(50), 20000);
        Check.refusesUnchanged(chip, 1, "run(1) at 20000", Check.STATE, () -> chip.run(1));
        Check.refuses("run(0) at 20000", Check.ARGUMENT, () -> chip.run(0));
        Check.refuses("run(101) at 20000", Check.ARGUMENT, () -> chip.run(101));
        Check.refuses("run of the most at 20000", Check.ARGUMENT, () -> chip.run(Integer.MAX_VALUE));
        Check.due("emitted", chip.account(0), 999L * 20000);
    }

    private static void laser() {
        Ringresonance chip = new Ringresonance();
        chip.part(Ringresonance.LASER, 0, 0, 2, 5);
        chip.run(3);
        Check.due("emitted", chip.account(0), 15);
        Check.due("leaked", chip.account(2), 15);
        chip.part(Ringresonance.DETECTOR, 0, 0, 0, 0);
        chip.lead(0, 0, 1, 0);
        chip.run(1);
        Check.due("on their way", chip.comes(1, 0, 2), 5);
        Check.due("not yet seen", chip.seen(1, 2), 0);
        chip.run(1);
        Check.due("seen", chip.seen(1, 2), 5);
    }

    private static void guides() {
        for (int length = 1; length <= 8; length++) {
            Ringresonance chip = new Ringresonance();
            chip.run(length);
            chip.part(Ringresonance.LASER, 0, 0, 7, 11);
            chip.part(Ringresonance.GUIDE, 0, 0, length, 0);
            chip.part(Ringresonance.DETECTOR, 0, 0, 0, 0);
            chip.lead(0, 0, 1, 0);
            chip.lead(1, 0, 2, 0);
            chip.run(1);
            chip.set(0, 0);
            chip.run(length - 1 < 1 ? 1 : length - 1);
            if (length > 1) {
                Check.due("not given yet at length " + length, chip.comes(2, 0, 7), 0);
                chip.run(1);
            }
            Check.due("given at length " + length, chip.comes(2, 0, 7), 11);
            chip.run(1);
            Check.due("seen at length " + length, chip.seen(2, 7), 11);
            chip.run(20);
            Check.due("once at length " + length, chip.seen(2, 7), 11);
        }
    }

    private static void guideLoss() {
        int[][] rows = {{7, 50, 3}, {7, 0, 0}, {7, 100, 7}, {1, 99, 0}, {999, 33, 329}, {100, 1, 1}};
        for (int[] row : rows) {
            Ringresonance chip = new Ringresonance();
            chip.part(Ringresonance.LASER, 0, 0, 1, row[0]);
            chip.part(Ringresonance.GUIDE, 0, 0, 5, row[1]);
            chip.lead(0, 0, 1, 0);
            chip.run(2);
            Check.due("lost of " + row[0] + " at " + row[1], chip.account(1), row[2]);
            chip.run(8);
            Check.due("leaked of " + row[0] + " at " + row[1], chip.account(2), 5 * (row[0] - row[2]));
        }
    }

    /** Two lasers into a part with two inputs, two detectors behind it; runs three ticks. */
    private static Ringresonance crossed(int kind, int first, int second, int[] channels, int[] powers) {
        Ringresonance chip = new Ringresonance();
        chip.part(Ringresonance.LASER, 0, 0, channels[0], powers[0]);
        chip.part(Ringresonance.LASER, 0, 0, channels[1], powers[1]);
        chip.part(kind, 0, 0, first, second);
        chip.part(Ringresonance.DETECTOR, 0, 0, 0, 0);
        chip.part(Ringresonance.DETECTOR, 0, 0, 0, 0);
        chip.lead(0, 0, 2, 0);
        chip.lead(1, 0, 2, 1);
        chip.lead(2, 0, 3, 0);
        chip.lead(2, 1, 4, 0);
        chip.run(3);
        return chip;
    }

    private static void coupler() {
        Ringresonance chip = crossed(Ringresonance.COUPLER, 0, 30, new int[] {1, 2}, new int[] {10, 20});
        Check.due("input 0 to output 0", chip.seen(3, 1), 7);
        Check.due("input 0 to output 1", chip.seen(4, 1), 3);
        Check.due("input 1 to output 0", chip.seen(3, 2), 6);
        Check.due("input 1 to output 1", chip.seen(4, 2), 14);
        Ringresonance none = crossed(Ringresonance.COUPLER, 0, 0, new int[] {1, 2}, new int[] {10, 20});
        Check.due("share 0", none.seen(3, -1), 10);
        Ringresonance all = crossed(Ringresonance.COUPLER, 0, 100, new int[] {1, 2}, new int[] {10, 20});
        Check.due("share 100", all.seen(3, -1), 20);
    }

    private static void couplerRounds() {
        // 7 * 50 / 100 is 3 from each input, not 7 from both.
        Ringresonance chip = crossed(Ringresonance.COUPLER, 0, 50, new int[] {1, 1}, new int[] {7, 9});
        Check.due("4 stay, 4 come over", chip.seen(3, 1), 8);
        Check.due("5 stay, 3 come over", chip.seen(4, 1), 8);
        Ringresonance uneven = crossed(Ringresonance.COUPLER, 0, 99, new int[] {1, 1}, new int[] {1, 50});
        Check.due("1 stays, 49 come over", uneven.seen(3, 1), 50);
        Check.due("1 stays, 0 come over", uneven.seen(4, 1), 1);
    }

    private static void ring() {
        for (int base = 0; base < 8; base++) {
            for (int channel = 0; channel < 8; channel++) {
                int apart = Math.floorMod(channel - base, 8);
                int share = apart == 0 ? 90 : apart == 1 || apart == 7 ? 20 : 0;
                int[] channels = {channel, channel};
                Ringresonance chip = crossed(Ringresonance.RING, base, 0, channels, new int[] {100, 10});
                int want = 100 - share + share / 10;
                Check.due("base " + base + ", channel " + channel, chip.seen(3, channel), want);
                Check.due("base " + base + ", channel " + channel, chip.seen(4, channel), 110 - want);
            }
        }
    }

    private static void ringTurnsWithItsWarmth() {
        Ringresonance chip = new Ringresonance();
        chip.part(Ringresonance.LASER, 0, 0, 3, 100);
        chip.part(Ringresonance.RING, 0, 0, 3, 0);
        chip.lead(0, 0, 1, 0);
        chip.part(Ringresonance.DETECTOR, 0, 0, 0, 0);
        chip.lead(1, 1, 2, 0);
        chip.run(1);
        chip.set(1, 16);
        // Warmth by ticks: 0, 16, 28; so the centers 3, 4, 4.
        chip.run(1);
        Check.due("the warmth of the end of the tick ahead", chip.comes(2, 0, 3), 90);
        Check.due("warmth", chip.ofPart(1, 3), 16);
        Check.due("center", chip.ofPart(1, 2), 4);
        chip.run(1);
        Check.due("beside the center", chip.comes(2, 0, 3), 20);
        Check.due("warmth", chip.ofPart(1, 3), 28);
        chip.run(1);
        Check.due("warmth", chip.ofPart(1, 3), 37);
        Check.due("center", chip.ofPart(1, 2), 5);
        chip.run(1);
        Check.due("away from the center", chip.comes(2, 0, 3), 0);
    }

    private static void centerBySixteens() {
        Ringresonance chip = new Ringresonance();
        chip.part(Ringresonance.RING, 0, 0, 7, 0);
        for (int heat = 1; heat <= 33; heat++) {
            chip.set(0, heat);
            chip.run(4);
            Check.due("warmth of the heat " + heat, chip.ofPart(0, 3), 4 * heat);
            Check.due("center of the heat " + heat, chip.ofPart(0, 2), (7 + heat / 4) % 8);
        }
    }

    private static void huntsBehindWarmths() {
        Ringresonance chip = new Ringresonance();
        chip.part(Ringresonance.RING, 0, 0, 0, 0);
        chip.lock(0, 0);
        // Heats by ticks: 1, 2, 3; each tells on the warmth of the tick behind it alone.
        int[] warmths = {0, 1, 2};
        for (int tick = 0; tick < warmths.length; tick++) {
            chip.run(1);
            Check.due("heat behind the tick " + tick, chip.ofPart(0, 1), tick + 1);
            Check.due("warmth behind the tick " + tick, chip.ofPart(0, 3), warmths[tick]);
        }
        Ringresonance atOnce = new Ringresonance();
        atOnce.part(Ringresonance.RING, 0, 0, 0, 0);
        atOnce.lock(0, 0);
        atOnce.run(3);
        Check.due("three ticks in one run", atOnce.ofPart(0, 3), 2);
    }

    private static void switches() {
        for (int bit = 0; bit < 8; bit++) {
            Ringresonance chip = new Ringresonance();
            chip.part(Ringresonance.LASER, 0, 0, 0, 1);
            chip.part(Ringresonance.SWITCH, 0, 0, 0, 1 << bit);
            chip.part(Ringresonance.DETECTOR, 0, 0, 0, 0);
            chip.lead(0, 0, 1, 0);
            chip.lead(1, 0, 2, 0);
            for (int tick = 0; tick < 20; tick++) {
                chip.run(1);
                long want = tick > 0 && tick % 8 == bit ? 1 : 0;
                Check.due("bit " + bit + ", tick " + tick, chip.comes(2, 0, 0), want);
            }
            long passed = bit == 0 ? 2 : bit < 4 ? 3 : 2;
            Check.due("lost by bit " + bit, chip.account(1), 19 - passed);
        }
        Ringresonance chip = new Ringresonance();
        chip.part(Ringresonance.LASER, 0, 0, 0, 1);
        chip.part(Ringresonance.SWITCH, 0, 0, 0, 255);
        chip.lead(0, 0, 1, 0);
        chip.run(20);
        Check.due("a switch that leads nowhere leaks", chip.account(2), 19);
        Check.due("and loses none", chip.account(1), 0);
    }

    private static void loops() {
        Ringresonance chip = new Ringresonance();
        chip.part(Ringresonance.LASER, 0, 0, 0, 100);
        chip.part(Ringresonance.COUPLER, 0, 0, 0, 50);
        chip.lead(0, 0, 1, 0);
        chip.lead(1, 1, 1, 1);
        chip.run(1);
        chip.set(0, 0);
        chip.run(1);
        Check.due("leaked at once", chip.account(2), 50);
        Check.due("in the loop", chip.comes(1, 1, 0), 50);
        chip.run(1);
        Check.due("leaked of the loop", chip.account(2), 75);
        chip.run(1);
        Check.due("25 * 50 / 100 leaked of it", chip.account(2), 87);
        Check.due("in the loop", chip.comes(1, 1, 0), 13);
        chip.run(20);
        Check.due("the last one stays", chip.account(4), 1);
    }

    private static void warmth() {
        Ringresonance chip = new Ringresonance();
        chip.part(Ringresonance.RING, 0, 0, 0, 1);
        int[] up = {1, 2, 3, 4, 4};
        for (int want : up) {
            chip.run(1);
            Check.due("warmer to 4", chip.ofPart(0, 3), want);
        }
        chip.set(0, 0);
        int[] down = {3, 2, 1, 0, 0};
        for (int want : down) {
            chip.run(1);
            Check.due("colder to 0", chip.ofPart(0, 3), want);
        }
        chip.set(0, 99);
        int[] hot = {99, 173, 228, 270, 301, 324};
        for (int want : hot) {
            chip.run(1);
            Check.due("warmer to 396", chip.ofPart(0, 3), want);
        }
        chip.set(0, 10);
        int[] cold = {253, 200, 160};
        for (int want : cold) {
            chip.run(1);
            Check.due("colder to 40", chip.ofPart(0, 3), want);
        }
    }

    private static void neighbours() {
        Ringresonance chip = new Ringresonance();
        chip.part(Ringresonance.RING, 3, 3, 0, 0);
        chip.part(Ringresonance.RING, 2, 5, 0, 50);
        chip.part(Ringresonance.COUPLER, 3, 3, 0, 100);
        chip.part(Ringresonance.LASER, 3, 3, 0, 999);
        chip.run(100);
        Check.due("50 at the distance 3", chip.ofPart(0, 3), 16);
        Check.due("0 at the distance 3", chip.ofPart(1, 3), 200);
        chip.part(Ringresonance.RING, 3, 3, 0, 7);
        chip.run(100);
        Check.due("and 7 at the distance 0", chip.ofPart(0, 3), 23);
        Check.due("and 7 at the distance 3", chip.ofPart(1, 3), 202);
        Check.due("28 and 0 and 50 at the distance 3", chip.ofPart(4, 3), 44);
        chip.part(Ringresonance.RING, 15, 15, 0, 24);
        chip.run(100);
        Check.due("each rounded down", chip.ofPart(0, 3), 24);
        Check.due("a part that is no ring has none", chip.ofPart(2, 3), 0);
    }

    private static void manyChannels() {
        Ringresonance chip = new Ringresonance();
        for (int channel = 0; channel < 4; channel++) {
            chip.part(Ringresonance.LASER, 0, 0, channel * 2, 10 + channel);
        }
        for (int i = 0; i < 3; i++) {
            chip.part(Ringresonance.COUPLER, 0, 0, 0, 100);
        }
        chip.part(Ringresonance.GUIDE, 0, 0, 2, 10);
        chip.part(Ringresonance.DETECTOR, 0, 0, 0, 0);
        chip.lead(0, 0, 4, 0);
        chip.lead(1, 0, 5, 0);
        chip.lead(2, 0, 6, 0);
        chip.lead(4, 1, 5, 1);
        chip.lead(5, 0, 6, 1);
        chip.lead(6, 0, 7, 0);
        chip.lead(7, 0, 8, 0);
        chip.run(40);
        // With a share of 100 only the light of the laser 0 comes through: 4, 5, 6, 7, 8.
        Check.due("channel 0", chip.seen(8, 0), 9 * (40 - 6));
        Check.due("channel 2", chip.seen(8, 2), 0);
        chip.set(5, 0);
        chip.run(40);
        Check.due("channel 2", chip.seen(8, 2), 10 * (40 - 4));
        Check.due("channel 4", chip.seen(8, 4), 0);
    }
}
