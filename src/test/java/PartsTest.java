/** The document's "Parts", ahead of the kinds: a test for each sentence, at its edges. */
public final class PartsTest {
    private static final int NONE = Ringresonance.NONE;
    private static final int FAR = Integer.MAX_VALUE;

    public static void main(String[] args) {
        atMost16();
        numbersOf16();
        eachKindAtTheEnds();
        places();
        firstStays();
        secondIsSetLater();
        distances();
        distancesOfRings();
        leadsToItself();
        oneOutputToAnInput();
        inThisTickWhateverTheNumbers();
        asItIsGiven();
        leaked();
        Check.end();
    }

    private static void atMost16() {
        Check.sentence("Parts are numbered from 0, at most 16");
        Ringresonance chip = new Ringresonance();
        for (int part = 0; part < 16; part++) {
            int none = part;
            Check.refuses("ofPart ahead of its making", Check.INDEX, () -> chip.ofPart(none, 0));
            Check.due("part", chip.part(part % 6, 0, 0, part % 6 == 1 ? 1 : 0, 0), part);
            Check.due("its kind", chip.ofPart(part, 0), part % 6);
        }
        for (int kind = 0; kind < 6; kind++) {
            int of = kind;
            Check.refuses("a 17th part, of the kind " + kind, Check.STATE, () -> chip.part(of, 0, 0, of == 1 ? 1 : 0, 0));
        }
        Check.refuses("ofPart(16, 0)", Check.INDEX, () -> chip.ofPart(16, 0));
        Check.due("ofPart(15, 0)", chip.ofPart(15, 0), 15 % 6);
    }

    private static void numbersOf16() {
        Check.sentence("Parts are numbered from 0, at most 16");
        // The ends of the numbers: 15 leads to 0, 0 to 14, through all that lie between.
        Ringresonance chip = new Ringresonance();
        chip.part(Ringresonance.COUPLER, 0, 0, 0, 100);
        for (int part = 1; part < 14; part++) {
            chip.part(Ringresonance.GUIDE, 0, 0, 1, 0);
        }
        chip.part(Ringresonance.DETECTOR, 0, 0, 0, 0);
        chip.part(Ringresonance.LASER, 0, 0, 7, 999);
        Check.due("lead(15, 0, 0, 1)", chip.lead(15, 0, 0, 1), NONE);
        Check.due("lead(0, 0, 13, 0)", chip.lead(0, 0, 13, 0), NONE);
        for (int part = 13; part > 1; part--) {
            chip.lead(part, 0, part - 1, 0);
        }
        chip.lead(1, 0, 14, 0);
        chip.run(15);
        Check.due("to the detector", chip.comes(14, 0, 7), 999);
        chip.run(1);
        Check.due("seen", chip.seen(14, 7), 999);
        Check.due("in a trial", chip.trial(14, 0, 17), 2 * 999);
        // The last of 16 may be a ring and be locked.
        Ringresonance rings = new Ringresonance();
        for (int part = 0; part < 16; part++) {
            rings.part(Ringresonance.RING, part, part, part % 8, part);
        }
        Check.due("lock(15, 7)", rings.lock(15, 7), NONE);
        rings.run(8);
        Check.due("heat", rings.ofPart(15, 1), 15 + 8);
        Check.due("lost", rings.ofPart(15, 5), 1);
        Check.due("the heat of the one ahead", rings.ofPart(14, 1), 14);
    }

    private static void eachKindAtTheEnds() {
        Check.sentence("Parts are numbered from 0, at most 16, each of a kind");
        int[] firsts = {7, 8, 0, 7, 0, 0};
        int[] seconds = {0, 0, 100, 0, 255, 0};
        int[] ticks = {1, 9, 2, 2, 2, 2};
        for (int kind = Chips.GUIDE; kind <= Chips.DETECTOR; kind++) {
            for (int part : new int[] {0, 15}) {
                Ringresonance chip = new Ringresonance();
                for (int i = 0; i < 16; i++) {
                    boolean tried = i == part;
                    chip.part(tried ? kind : i == 7 ? Chips.LASER : Chips.DETECTOR, 0, 0,
                            tried ? firsts[kind] : i == 7 ? 7 : 0, tried ? seconds[kind] : i == 7 ? 10 : 0);
                }
                // All that a part with two inputs has is at the sides 1, the last ones of their rows.
                boolean two = kind == Chips.COUPLER || kind == Chips.RING;
                chip.lead(7, 0, part, two ? 1 : 0);
                int want = kind == Chips.RING ? 9 : 10;
                if (kind != Chips.DETECTOR) {
                    chip.lead(part, 0, 8, 0);
                }
                chip.run(ticks[kind]);
                String of = "of the kind " + kind + " with the number " + part;
                Check.due("given " + of, kind == Chips.DETECTOR ? chip.seen(part, 7) : chip.comes(8, 0, 7), want);
                chip.run(20);
                int detector = kind == Chips.DETECTOR ? part : 8;
                Check.due("seen " + of, chip.seen(detector, 7), kind == Chips.DETECTOR ? 21 * 10 : 20 * want);
                Check.due("tried " + of, chip.trial(detector, 0, chip.tick()), chip.seen(detector, NONE));
            }
        }
    }

    private static void places() {
        Check.sentence("at a place x, y, both 0 to 15");
        Ringresonance chip = new Ringresonance();
        int made = 0;
        for (int x : new int[] {Integer.MIN_VALUE, -1, 0, 15, 16, FAR}) {
            for (int y : new int[] {Integer.MIN_VALUE, -1, 0, 15, 16, FAR}) {
                boolean good = (x == 0 || x == 15) && (y == 0 || y == 15);
                Check.same("part at " + x + ", " + y, Check.outcome(() -> chip.part(0, x, y, 0, 0)),
                        good ? Integer.toString(made) : "throws.IllegalArgumentException");
                made += good ? 1 : 0;
            }
        }
        Check.due("made", made, 4);
    }

    private static void firstStays() {
        Check.sentence("with a first and a second number, of which the second one can be set later");
        Ringresonance chip = Chips.through(5, 10, Chips.GUIDE, 3, 0, 0);
        chip.set(0, 7);
        chip.set(1, 100);
        chip.set(1, 0);
        chip.run(5);
        Check.due("the laser's channel and the guide's length are as they were", chip.seen(2, 5), 7);
        Check.due("emitted", chip.account(0), 35);
    }

    private static void secondIsSetLater() {
        Check.sentence("of which the second one can be set later");
        int[] most = {999, 100, 100, 99, 255, 0};
        Ringresonance chip = Chips.each();
        for (int kind = 0; kind < 6; kind++) {
            int part = kind;
            Check.due("set to its least", chip.set(part, 0), 0);
            Check.due("set to its most", chip.set(part, most[kind]), 0);
            Check.refuses("one above", Check.ARGUMENT, () -> chip.set(part, most[part] + 1));
            Check.refuses("one below", Check.ARGUMENT, () -> chip.set(part, -1));
            Check.due("its second number", chip.ofPart(part, 1), most[kind]);
            Check.due("set answers the one before", chip.set(part, 0), most[kind]);
        }
        // Each works by its new number from the next tick on.
        Ringresonance share = Chips.through(0, 10, Chips.COUPLER, 0, 0, 0);
        share.run(2);
        share.set(1, 100);
        Check.due("given ahead of set", share.comes(2, 0, 0), 10);
        share.run(1);
        Check.due("given behind set", share.comes(3, 0, 0), 10);
        Ringresonance gate = Chips.through(0, 10, Chips.SWITCH, 0, 255, 0);
        gate.run(2);
        gate.set(1, 0);
        Check.due("passed ahead of set", gate.comes(2, 0, 0), 10);
        gate.run(1);
        Check.due("held behind set", gate.comes(2, 0, 0), 0);
        Check.due("lost behind set", gate.account(1), 10);
    }

    private static void distances() {
        Check.sentence("The distance of two parts is what their x and their y differ, together.");
        int[][] rows = {
            {0, 0, 0, 0, 0}, {15, 15, 15, 15, 0}, {3, 5, 4, 5, 1}, {3, 5, 3, 4, 1}, {3, 5, 2, 6, 2},
            {3, 5, 4, 6, 2}, {6, 2, 1, 9, 12}, {0, 14, 0, 0, 14}, {14, 0, 0, 0, 14}, {7, 7, 0, 0, 14},
            {0, 7, 7, 0, 14}, {15, 0, 0, 0, 15}, {15, 0, 0, 15, 30}, {0, 0, 15, 15, 30}
        };
        for (int[] row : rows) {
            Ringresonance chip = new Ringresonance();
            chip.part(0, row[0], row[1], 0, 0);
            chip.part(5, row[2], row[3], 0, 0);
            for (int least = 0; least <= 15; least++) {
                chip.spacing(least);
                Check.due("conflicts at " + row[4] + " with " + least, chip.conflicts(), row[4] < least ? 1 : 0);
            }
        }
    }

    private static void distancesOfRings() {
        Check.sentence("The distance of two parts is what their x and their y differ, together.");
        int[][] rows = {
            {0, 0, 0, 0, 99}, {4, 4, 4, 3, 99}, {4, 4, 5, 3, 49}, {4, 4, 3, 6, 33}, {9, 0, 0, 0, 11},
            {15, 15, 0, 0, 3}, {0, 15, 15, 0, 3}
        };
        for (int[] row : rows) {
            Ringresonance chip = new Ringresonance();
            chip.part(Ringresonance.RING, row[0], row[1], 0, 0);
            chip.part(Ringresonance.RING, row[2], row[3], 0, 99);
            chip.run(60);
            Check.due("warmth by the other ring's 99", chip.ofPart(0, 3), row[4]);
            Check.due("warmth by its own 99", chip.ofPart(1, 3), 396);
        }
    }

    private static void leadsToItself() {
        Check.sentence("An output of a part may lead to an input of a part, perhaps of itself");
        Ringresonance chip = Chips.each();
        for (int kind = Chips.GUIDE; kind <= Chips.SWITCH; kind++) {
            Check.due("of the kind " + kind, chip.lead(kind, 0, kind, 0), NONE);
            Check.due("of the kind " + kind + ", again", chip.lead(kind, 0, kind, 0), kind);
        }
        // A coupler that keeps all in a round by its output 1 and its input 1.
        Ringresonance loop = new Ringresonance();
        loop.part(Ringresonance.LASER, 0, 0, 2, 8);
        loop.part(Ringresonance.COUPLER, 0, 0, 0, 100);
        loop.part(Ringresonance.DETECTOR, 0, 0, 0, 0);
        loop.lead(0, 0, 1, 0);
        loop.lead(1, 1, 1, 1);
        loop.lead(1, 0, 2, 0);
        loop.run(1);
        loop.set(0, 0);
        loop.run(1);
        Check.due("to itself", loop.comes(1, 1, 2), 8);
        loop.set(1, 0);
        for (int i = 0; i < 5; i++) {
            loop.run(1);
            Check.due("to itself, round and round", loop.comes(1, 1, 2), 8);
        }
        loop.set(1, 100);
        loop.run(2);
        Check.due("seen", loop.seen(2, 2), 8);
    }

    private static void oneOutputToAnInput() {
        Check.sentence("at most one output leads to an input");
        Ringresonance chip = new Ringresonance();
        chip.part(Ringresonance.LASER, 0, 0, 0, 1);
        chip.part(Ringresonance.COUPLER, 0, 0, 0, 0);
        chip.part(Ringresonance.DETECTOR, 0, 0, 0, 0);
        chip.lead(0, 0, 2, 0);
        Check.refuses("another part's output 0", Check.STATE, () -> chip.lead(1, 0, 2, 0));
        Check.refuses("another part's output 1", Check.STATE, () -> chip.lead(1, 1, 2, 0));
        Check.due("the same output again", chip.lead(0, 0, 2, 0), 2);
        chip.lead(1, 0, 1, 1);
        Check.refuses("an output of the same part", Check.STATE, () -> chip.lead(1, 1, 1, 1));
        Check.refuses("a laser to that", Check.STATE, () -> chip.lead(0, 0, 1, 1));
        Check.due("the other input of that is free", chip.lead(1, 1, 1, 0), NONE);
        Check.due("cut", chip.cut(0, 0), 2);
        Check.due("the input is free behind cut", chip.lead(1, 0, 2, 0), 1);
        Check.due("the input that was left is free, too", chip.lead(0, 0, 1, 1), NONE);
        Check.refuses("a taken input again", Check.STATE, () -> chip.lead(1, 1, 1, 1));
    }

    private static void inThisTickWhateverTheNumbers() {
        Check.sentence("In a tick, each part works on the photons that come to its inputs in this tick");
        for (int way = 0; way < 2; way++) {
            // The same chain with rising numbers and with falling ones: a tick for each part.
            Ringresonance chip = new Ringresonance();
            int[] kinds = {Chips.LASER, Chips.SWITCH, Chips.COUPLER, Chips.GUIDE, Chips.RING, Chips.DETECTOR};
            int[] seconds = {10, 255, 0, 0, 0, 0};
            for (int i = 0; i < 6; i++) {
                int kind = kinds[way == 0 ? i : 5 - i];
                chip.part(kind, 0, 0, kind == Chips.GUIDE ? 1 : 0, seconds[way == 0 ? i : 5 - i]);
            }
            int step = way == 0 ? 1 : -1;
            int first = way == 0 ? 0 : 5;
            for (int i = 0; i < 5; i++) {
                chip.lead(first + step * i, 0, first + step * (i + 1), 0);
            }
            for (int i = 1; i < 6; i++) {
                chip.run(1);
                Check.due("ahead of the part " + i + " of the way", chip.comes(first + step * i, 0, 0),
                        i < 5 ? 10 : 1);
                Check.due("seen", chip.account(3), 0);
                Check.due("inside", chip.account(4), 10 * i - (i < 5 ? 0 : 9));
            }
            chip.run(1);
            Check.due("seen", chip.account(3), 1);
        }
    }

    private static void asItIsGiven() {
        Check.sentence("comes, in the next tick, to the input to which that leads as it is given");
        Ringresonance chip = new Ringresonance();
        chip.part(Ringresonance.LASER, 0, 0, 0, 10);
        chip.part(Ringresonance.GUIDE, 0, 0, 3, 0);
        chip.part(Ringresonance.DETECTOR, 0, 0, 0, 0);
        chip.part(Ringresonance.DETECTOR, 0, 0, 0, 0);
        chip.lead(0, 0, 1, 0);
        chip.lead(1, 0, 2, 0);
        chip.run(3);
        // Still in the guide when its output is turned: given to where that leads then.
        Check.due("lead", chip.lead(1, 0, 3, 0), 2);
        Check.due("none given yet", chip.comes(2, 0, 0) + chip.comes(3, 0, 0), 0);
        chip.run(1);
        Check.due("given behind lead, to the new one", chip.comes(3, 0, 0), 10);
        Check.due("lead", chip.lead(1, 0, 2, 0), 3);
        Check.due("given ahead of lead, to the old one", chip.comes(3, 0, 0), 10);
        Check.due("not to the new one", chip.comes(2, 0, 0), 0);
        chip.run(1);
        Check.due("seen by the old one", chip.seen(3, 0), 10);
        Check.due("on the way to the new one", chip.comes(2, 0, 0), 10);
        chip.cut(1, 0);
        chip.run(1);
        Check.due("given ahead of cut, seen", chip.seen(2, 0), 10);
        Check.due("given behind cut, leaked", chip.account(2), 10);
    }

    private static void leaked() {
        Check.sentence("or has leaked, if it leads to none");
        Ringresonance laser = new Ringresonance();
        laser.part(Ringresonance.LASER, 0, 0, 3, 10);
        laser.run(1);
        Check.due("at once of a laser", laser.account(2), 10);
        Check.due("none inside", laser.account(4), 0);
        int[] seconds = {0, 0, 40, 0, 255};
        int[] firsts = {0, 1, 0, 3, 0};
        for (int kind = Chips.GUIDE; kind <= Chips.SWITCH; kind++) {
            Ringresonance chip = Chips.through(3, 10, kind, firsts[kind], seconds[kind], 0);
            chip.cut(1, 0);
            chip.run(2);
            int[] ofTheFirst = {0, 10, 6, 1, 10};
            Check.due("of the output 0 of the kind " + kind, chip.account(2), ofTheFirst[kind]);
            if (kind == Chips.COUPLER || kind == Chips.RING) {
                Check.due("the other output leads on", chip.comes(3, 0, 3), 10 - ofTheFirst[kind]);
                chip.cut(1, 1);
                chip.run(1);
                Check.due("of both outputs", chip.account(2), ofTheFirst[kind] + 10);
            }
        }
    }
}
