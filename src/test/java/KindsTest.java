/** The kinds of parts: a test for each of their sentences, at its edges. */
public final class KindsTest {
    public static void main(String[] args) {
        numbersOfLasers();
        noInput();
        emits();
        numbersOfGuides();
        hundredthsLost();
        ofEachChannel();
        delays();
        guideKeepsItsRows();
        manyGuides();
        numbersOfCouplers();
        couplerShares();
        eachInputForItself();
        numbersOfRings();
        ringShares();
        besideSevenIsZero();
        centerByTheRemainder();
        centerWithOffsets();
        numbersOfSwitches();
        switchBits();
        switchLoses();
        numbersOfDetectors();
        detectorSees();
        Check.end();
    }

    private static void numbers(int kind, int least, int most, int mostSecond) {
        Check.EdgeCall first = number -> new Ringresonance().part(kind, 0, 0, (int) number, 0);
        Check.EdgeCall second = number -> new Ringresonance().part(kind, 0, 0, least, (int) number);
        Check.EdgeCall set = number -> Chips.one(kind).set(0, (int) number);
        Check.edges("the first of the kind " + kind, least, most, Check.ARGUMENT, first);
        Check.edges("the second of the kind " + kind, 0, mostSecond, Check.ARGUMENT, second);
        Check.edges("set of the kind " + kind, 0, mostSecond, Check.ARGUMENT, set);
        Ringresonance chip = new Ringresonance();
        chip.part(kind, 0, 0, most, mostSecond);
        Check.due("its second number", chip.ofPart(0, 1), mostSecond);
    }

    private static void numbersOfLasers() {
        Check.sentence("LASER: first a channel, second a power, 0 to 999");
        numbers(Ringresonance.LASER, 0, 7, 999);
    }

    private static void noInput() {
        Check.sentence("no input");
        Ringresonance chip = Chips.one(Ringresonance.LASER);
        chip.part(Ringresonance.LASER, 0, 0, 0, 0);
        Check.refuses("lead to a laser's input 0", Check.INDEX, () -> chip.lead(0, 0, 1, 0));
        Check.refuses("comes to a laser's input 0", Check.INDEX, () -> chip.comes(1, 0, 0));
        Check.refuses("a laser's output 1", Check.INDEX, () -> chip.cut(0, 1));
        Check.due("a laser's output 0", chip.cut(0, 0), -1);
    }

    private static void emits() {
        Check.sentence("in each tick so many photons of the channel are emitted at the output 0");
        for (int power : new int[] {0, 1, 998, 999}) {
            for (int channel : new int[] {0, 7}) {
                Ringresonance chip = Chips.through(channel, power, Chips.COUPLER, 0, 0, 0);
                for (int tick = 1; tick < 12; tick++) {
                    chip.run(1);
                    Check.due("emitted", chip.account(0), (long) power * tick);
                    Check.due("on the way", chip.comes(1, 0, channel), power);
                    Check.due("of another channel", chip.comes(1, 0, 7 - channel), 0);
                }
            }
        }
    }

    private static void numbersOfGuides() {
        Check.sentence("GUIDE: first a length, 1 to 8, second a loss, 0 to 100");
        numbers(Ringresonance.GUIDE, 1, 8, 100);
    }

    private static void hundredthsLost() {
        Check.sentence("that many hundredths are lost");
        int[][] rows = {
            {100, 0, 0}, {100, 1, 1}, {100, 99, 99}, {100, 100, 100}, {999, 100, 999}, {999, 0, 0}, {3, 33, 0},
            {3, 34, 1}, {1, 100, 1}, {0, 100, 0}
        };
        for (int[] row : rows) {
            for (int length : new int[] {1, 8}) {
                Ringresonance chip = Chips.through(6, row[0], Chips.GUIDE, length, row[1], 0);
                chip.run(1);
                Check.due("lost ahead of the guide", chip.account(1), 0);
                chip.run(1);
                Check.due("lost as they come, of " + row[0] + " by " + row[1], chip.account(1), row[2]);
                chip.run(8);
                Check.due("lost in 9 ticks", chip.account(1), 9 * row[2]);
                Check.due("given to the detector", chip.comes(2, 0, 6), row[0] - row[2]);
            }
        }
    }

    private static void ofEachChannel() {
        Check.sentence("of the photons that come to the input 0, of each channel, that many hundredths are lost");
        // Two channels with 3 photons each: 50 hundredths are 1 of each, not 3 of all 6.
        Ringresonance chip = new Ringresonance();
        chip.part(Ringresonance.LASER, 0, 0, 0, 3);
        chip.part(Ringresonance.LASER, 0, 0, 7, 3);
        chip.part(Ringresonance.COUPLER, 0, 0, 0, 0);
        chip.part(Ringresonance.GUIDE, 0, 0, 2, 50);
        chip.part(Ringresonance.COUPLER, 0, 0, 0, 0);
        chip.lead(0, 0, 2, 0);
        chip.lead(1, 0, 2, 1);
        chip.lead(2, 0, 3, 0);
        chip.run(3);
        Check.due("lost of one channel", chip.account(1), 1);
        // Now both channels come over to the output 0: by a share of 100 only the channel 7 does.
        chip.set(2, 100);
        chip.run(1);
        Check.due("the channel 7 comes", chip.comes(3, 0, 7), 3);
        Check.due("the channel 0 comes no more", chip.comes(3, 0, 0), 0);
        Ringresonance both = new Ringresonance();
        both.part(Ringresonance.LASER, 0, 0, 0, 4);
        both.part(Ringresonance.LASER, 0, 0, 7, 6);
        both.part(Ringresonance.COUPLER, 0, 0, 0, 50);
        both.part(Ringresonance.GUIDE, 0, 0, 2, 50);
        both.part(Ringresonance.DETECTOR, 0, 0, 0, 0);
        both.lead(0, 0, 2, 0);
        both.lead(1, 0, 2, 1);
        both.lead(2, 0, 3, 0);
        both.lead(3, 0, 4, 0);
        both.run(3);
        // 2 of the channel 0 and 3 of the channel 7 came: 1 and 1 are lost, not 2 of 5.
        Check.due("lost of both", both.account(1), 2);
        both.run(1);
        Check.due("the channel 0", both.comes(4, 0, 0), 1);
        Check.due("the channel 7", both.comes(4, 0, 7), 2);
    }

    private static void delays() {
        Check.sentence("the others are given at the output 0 as many ticks later as 1 less than the length");
        for (int length = 1; length <= 8; length++) {
            for (int start = 0; start < 9; start++) {
                Ringresonance chip = Chips.through(1, 0, Chips.GUIDE, length, 0, 0);
                if (start > 0) {
                    chip.run(start);
                }
                chip.set(0, 77);
                chip.run(1);
                chip.set(0, 0);
                for (int later = 1; later < 20; later++) {
                    chip.run(1);
                    Check.due("length " + length + ", begun at " + start + ", " + later + " ticks later",
                            chip.comes(2, 0, 1), later == length ? 77 : 0);
                }
                Check.due("seen", chip.seen(2, 1), 77);
                Check.due("inside", chip.account(4), 0);
            }
        }
    }

    private static void guideKeepsItsRows() {
        Check.sentence("the others are given at the output 0 as many ticks later as 1 less than the length");
        // Another power in each tick: all are given in their order, in a guide of the greatest length.
        for (int length : new int[] {1, 2, 7, 8}) {
            Ringresonance chip = Chips.through(7, 1, Chips.GUIDE, length, 0, 0);
            for (int tick = 0; tick < 40; tick++) {
                chip.set(0, 1 + tick);
                chip.run(1);
                int came = tick - length;
                Check.due("at the tick " + tick, chip.comes(2, 0, 7), came < 0 ? 0 : 1 + came);
            }
        }
    }

    private static void manyGuides() {
        Check.sentence("of the photons that come to the input 0, of each channel");
        // Guides of all lengths at once, in a row from the part 0 on, each with its own light's rest.
        Ringresonance chip = new Ringresonance();
        for (int length = 8; length >= 1; length--) {
            chip.part(Ringresonance.GUIDE, 0, 0, length, 0);
        }
        chip.part(Ringresonance.LASER, 0, 0, 0, 1);
        chip.part(Ringresonance.DETECTOR, 0, 0, 0, 0);
        chip.lead(8, 0, 0, 0);
        for (int part = 0; part < 7; part++) {
            chip.lead(part, 0, part + 1, 0);
        }
        chip.lead(7, 0, 9, 0);
        // 8 + 7 + .. + 1 ticks in all, each tick with another power.
        for (int tick = 0; tick < 60; tick++) {
            chip.set(8, tick + 1);
            chip.run(1);
            Check.due("at the tick " + tick, chip.comes(9, 0, 0), tick < 36 ? 0 : tick - 35);
        }
    }

    private static void numbersOfCouplers() {
        Check.sentence("COUPLER: first 0, second a share, 0 to 100");
        numbers(Ringresonance.COUPLER, 0, 0, 100);
    }

    private static void couplerShares() {
        Check.sentence("that many hundredths are given at the output with the other number");
        int[][] rows = {{100, 0, 0}, {100, 1, 1}, {100, 99, 99}, {100, 100, 100}, {1, 99, 0}, {1, 100, 1}, {7, 50, 3}};
        for (int[] row : rows) {
            for (int in = 0; in < 2; in++) {
                Ringresonance chip = Chips.through(4, row[0], Chips.COUPLER, 0, row[1], in);
                chip.run(2);
                String of = row[0] + " by " + row[1] + " at the input " + in;
                Check.due("the other number, " + of, chip.comes(3 - in, 0, 4), row[2]);
                Check.due("the same number, " + of, chip.comes(2 + in, 0, 4), row[0] - row[2]);
                Check.due("lost", chip.account(1), 0);
            }
        }
    }

    private static void eachInputForItself() {
        Check.sentence("of the photons that come to an input, 0 or 1, of each channel");
        for (int kind = Chips.COUPLER; kind <= Chips.RING; kind++) {
            // 5 and 5 photons of one channel: 20 hundredths of 5 is 1; of 4 and 4 it is 0 and 0, not 1.
            for (int power = 4; power <= 5; power++) {
                Ringresonance chip = Chips.through(2, power, kind, kind == Chips.RING ? 3 : 0,
                        kind == Chips.RING ? 0 : 20, 0);
                int other = chip.part(Ringresonance.LASER, 0, 0, 2, 4);
                chip.lead(other, 0, 1, 1);
                chip.run(2);
                int over = power == 5 ? 1 : 0;
                Check.due("at the output 0 of the kind " + kind, chip.comes(2, 0, 2), power - over);
                Check.due("at the output 1 of the kind " + kind, chip.comes(3, 0, 2), 4 + over);
            }
        }
    }

    private static void numbersOfRings() {
        Check.sentence("RING: first a base, 0 to 7, second its heat, 0 to 99");
        numbers(Ringresonance.RING, 0, 7, 99);
    }

    private static void ringShares() {
        Check.sentence("the share is 90 for the channel that is its center, 20 for the two beside that, 0 for all others");
        int[] shares = {90, 20, 0, 0, 0, 0, 0, 20};
        for (int base = 0; base < 8; base++) {
            for (int channel = 0; channel < 8; channel++) {
                for (int in = 0; in < 2; in++) {
                    Ringresonance chip = Chips.through(channel, 100, Chips.RING, base, 0, in);
                    chip.run(2);
                    int share = shares[(channel - base + 8) % 8];
                    String of = "base " + base + ", channel " + channel + ", input " + in;
                    Check.due("over, " + of, chip.comes(3 - in, 0, channel), share);
                    Check.due("the rest, " + of, chip.comes(2 + in, 0, channel), 100 - share);
                }
            }
        }
    }

    private static void besideSevenIsZero() {
        Check.sentence("beside 7 is 0, too");
        Ringresonance seven = Chips.through(0, 10, Chips.RING, 7, 0, 0);
        seven.run(2);
        Check.due("the channel 0 at the center 7", seven.comes(3, 0, 0), 2);
        Ringresonance zero = Chips.through(7, 10, Chips.RING, 0, 0, 0);
        zero.run(2);
        Check.due("the channel 7 at the center 0", zero.comes(3, 0, 7), 2);
        Ringresonance one = Chips.through(7, 10, Chips.RING, 1, 0, 0);
        one.run(2);
        Check.due("the channel 7 at the center 1", one.comes(3, 0, 7), 0);
        Ringresonance six = Chips.through(0, 10, Chips.RING, 6, 0, 0);
        six.run(2);
        Check.due("the channel 0 at the center 6", six.comes(3, 0, 0), 0);
    }

    private static void centerByTheRemainder() {
        Check.sentence("its warmth divided by 16, together, by the remainder by 8, 0 or more");
        for (int base = 0; base < 8; base++) {
            Ringresonance chip = new Ringresonance();
            chip.part(Ringresonance.RING, 0, 0, base, 99);
            for (int i = 0; i < 40; i++) {
                int warmth = chip.ofPart(0, 3);
                Check.due("center of " + base + " at " + warmth, chip.ofPart(0, 2), (base + warmth / 16) % 8);
                chip.run(1);
            }
            Check.due("warmth", chip.ofPart(0, 3), 396);
            // 396 by 16 is 24: three rounds.
            Check.due("center", chip.ofPart(0, 2), base);
        }
        int[][] edges = {{3, 12, 0}, {4, 16, 1}, {7, 28, 1}, {8, 32, 2}, {31, 124, 7}, {32, 128, 0}, {33, 132, 0}, {36, 144, 1}};
        for (int[] row : edges) {
            Ringresonance chip = new Ringresonance();
            chip.part(Ringresonance.RING, 0, 0, 0, row[0]);
            chip.run(60);
            Check.due("warmth", chip.ofPart(0, 3), row[1]);
            Check.due("center", chip.ofPart(0, 2), row[2]);
        }
        // One warmer by a neighbour: 15 and 16 lie on the two sides of the edge.
        Ringresonance pair = new Ringresonance();
        pair.part(Ringresonance.RING, 0, 0, 7, 0);
        pair.part(Ringresonance.RING, 0, 0, 0, 15);
        pair.run(60);
        Check.due("warmth", pair.ofPart(0, 3), 15);
        Check.due("center at 15", pair.ofPart(0, 2), 7);
        pair.set(1, 16);
        pair.run(1);
        Check.due("warmth", pair.ofPart(0, 3), 16);
        Check.due("center at 16", pair.ofPart(0, 2), 0);
    }

    private static void centerWithOffsets() {
        Check.sentence("Its center is its base, the offset (0 but for trials), and its warmth divided by 16, together");
        int[] shares = {90, 20, 0, 0, 0, 0, 0, 20};
        for (int base : new int[] {0, 1, 7}) {
            for (int channel = 0; channel < 8; channel++) {
                Ringresonance chip = Chips.through(channel, 100, Chips.RING, base, 0, 0);
                for (int offset = -8; offset <= 8; offset++) {
                    int away = (channel - base - offset + 16) % 8;
                    Check.due("base " + base + ", channel " + channel + ", offset " + offset,
                            chip.trial(3, offset, 3), shares[away]);
                }
                Check.due("no offset but for trials", chip.ofPart(1, 2), base);
            }
        }
    }

    private static void numbersOfSwitches() {
        Check.sentence("SWITCH: first 0, second a pattern, 0 to 255");
        numbers(Ringresonance.SWITCH, 0, 0, 255);
    }

    private static void switchBits() {
        Check.sentence("the bit that is the remainder of the tick by 8 (1 for the remainder 0)");
        for (int pattern : new int[] {0, 1, 2, 4, 8, 16, 32, 64, 127, 128, 129, 254, 255}) {
            Ringresonance chip = Chips.through(5, 1, Chips.SWITCH, 0, pattern, 0);
            chip.run(1);
            for (int tick = 1; tick < 34; tick++) {
                chip.run(1);
                boolean open = (pattern / (1 << (tick % 8))) % 2 == 1;
                Check.due("pattern " + pattern + ", tick " + tick, chip.comes(2, 0, 5), open ? 1 : 0);
            }
        }
    }

    private static void switchLoses() {
        Check.sentence("otherwise it is lost");
        Ringresonance chip = Chips.through(5, 10, Chips.SWITCH, 0, 0b11111011, 0);
        chip.run(2);
        Check.due("lost in the tick 1", chip.account(1), 0);
        chip.run(1);
        Check.due("lost in the tick 2", chip.account(1), 10);
        chip.run(7);
        Check.due("lost in the ticks 3 to 9", chip.account(1), 10);
        chip.run(1);
        Check.due("lost in the tick 10", chip.account(1), 20);
        Check.due("leaked", chip.account(2), 0);
        Ringresonance shut = Chips.through(5, 999, Chips.SWITCH, 0, 0, 0);
        shut.run(100);
        Check.due("all lost by the pattern 0", shut.account(1), 99 * 999);
        Ringresonance open = Chips.through(5, 999, Chips.SWITCH, 0, 255, 0);
        open.run(100);
        Check.due("none lost by the pattern 255", open.account(1), 0);
    }

    private static void numbersOfDetectors() {
        Check.sentence("DETECTOR: first 0, second 0");
        numbers(Ringresonance.DETECTOR, 0, 0, 0);
    }

    private static void detectorSees() {
        Check.sentence("what comes to the input 0 is seen");
        Ringresonance chip = new Ringresonance();
        chip.part(Ringresonance.LASER, 0, 0, 0, 999);
        chip.part(Ringresonance.DETECTOR, 0, 0, 0, 0);
        chip.lead(0, 0, 1, 0);
        chip.run(1);
        Check.due("seen in the tick 0", chip.seen(1, 0), 0);
        chip.run(1);
        Check.due("seen in the tick 1", chip.seen(1, 0), 999);
        Check.due("in all", chip.account(3), 999);
        Check.due("inside", chip.account(4), 999);
        Check.refuses("a detector's output 0", Check.INDEX, () -> chip.cut(1, 0));
        Check.refuses("a detector's input 1", Check.INDEX, () -> chip.comes(1, 1, 0));
    }
}
