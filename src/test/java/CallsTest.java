/** Each range of an argument, each answer NONE and each "Throws" row of the promises 2 to 16. */
public final class CallsTest {
    private static final int NONE = Ringresonance.NONE;

    public static void main(String[] args) {
        newObject();
        partRanges();
        partThrows();
        setRanges();
        leadRanges();
        leadAnswersNone();
        leadThrows();
        cutRanges();
        cutAnswersNone();
        lockRanges();
        lockAnswersNone();
        runRanges();
        runThrows();
        spacingRanges();
        conflictsAtTheEdges();
        trialRanges();
        yieldsRanges();
        ofPartRanges();
        ofPartAnswersNone();
        comesRanges();
        seenRanges();
        accountRanges();
        tickAnswers();
        Check.end();
    }

    private static void newObject() {
        Check.sentence("No parts; the spacing 1; the tick 0.");
        Check.refuses("ofPart(0, 0)", Check.INDEX, () -> new Ringresonance().ofPart(0, 0));
        Check.due("part", new Ringresonance().part(0, 0, 0, 0, 0), 0);
        Check.due("spacing(0)", new Ringresonance().spacing(0), 1);
        Check.due("spacing(1)", new Ringresonance().spacing(1), 1);
        Check.due("spacing(15)", new Ringresonance().spacing(15), 1);
        Check.due("tick()", new Ringresonance().tick(), 0);
        Check.due("conflicts()", new Ringresonance().conflicts(), 0);
        Check.due("run(1)", new Ringresonance().run(1), 1);
        Check.due("run(100)", new Ringresonance().run(100), 100);
    }

    private static void partRanges() {
        Check.sentence("Promise 2: kind: LASER to DETECTOR; x: 0 to 15; y: 0 to 15");
        Check.edges("kind", 0, 5, Check.ARGUMENT, n -> new Ringresonance().part((int) n, 0, 0, 0, 0));
        Check.edges("x", 0, 15, Check.ARGUMENT, n -> new Ringresonance().part(0, (int) n, 0, 0, 0));
        Check.edges("y", 0, 15, Check.ARGUMENT, n -> new Ringresonance().part(0, 0, (int) n, 0, 0));
        Check.sentence("first: as the kind has it; second: as the kind has it");
        int[] leasts = {0, 1, 0, 0, 0, 0};
        int[] mosts = {7, 8, 0, 7, 0, 0};
        int[] seconds = {999, 100, 100, 99, 255, 0};
        for (int kind = 0; kind < 6; kind++) {
            int of = kind;
            Check.edges("first of the kind " + kind, leasts[kind], mosts[kind], Check.ARGUMENT,
                    n -> new Ringresonance().part(of, 0, 0, (int) n, 0));
            Check.edges("second of the kind " + kind, 0, seconds[kind], Check.ARGUMENT,
                    n -> new Ringresonance().part(of, 0, 0, leasts[of], (int) n));
            Check.due("both at their most", new Ringresonance().part(kind, 15, 15, mosts[kind], seconds[kind]), 0);
        }
        Check.refuses("a guide with a first of 0", Check.ARGUMENT, () -> new Ringresonance().part(1, 0, 0, 0, 0));
    }

    private static void partThrows() {
        Check.sentence("Promise 2: Throws IllegalStateException if there are 16");
        Ringresonance chip = Chips.full();
        Check.refuses("part", Check.STATE, () -> chip.part(0, 0, 0, 0, 0));
        Check.refuses("part, at its most", Check.STATE, () -> chip.part(5, 15, 15, 0, 0));
        Ringresonance room = Chips.busy();
        for (int part = Chips.BUSY; part < 16; part++) {
            Check.due("part", room.part(5, 0, 0, 0, 0), part);
        }
        Check.refuses("part", Check.STATE, () -> room.part(5, 0, 0, 0, 0));
    }

    private static void setRanges() {
        Check.sentence("Promise 3: part: a part; second: as its kind has it");
        int[] seconds = {999, 100, 100, 99, 255, 0};
        Check.edges("part", 0, 5, Check.INDEX, n -> Chips.each().set((int) n, 0));
        for (int kind = 0; kind < 6; kind++) {
            int part = kind;
            Check.edges("second of the kind " + kind, 0, seconds[kind], Check.ARGUMENT,
                    n -> Chips.each().set(part, (int) n));
        }
        Check.sentence("Promise 3: Returns the one before.");
        Ringresonance chip = Chips.each();
        Check.due("set", chip.set(0, 999), 0);
        Check.due("set", chip.set(0, 1), 999);
        Check.refuses("set", Check.ARGUMENT, () -> chip.set(0, 1000));
        Check.due("set behind a refused one", chip.set(0, 0), 1);
    }

    private static void leadRanges() {
        Check.sentence("Promise 4: part: a part; out: an output of it; other: a part; in: an input of that");
        Check.edges("part", 0, 4, Check.INDEX, n -> Chips.each().lead((int) n, 0, 5, 0));
        Check.refuses("the detector", Check.INDEX, () -> Chips.each().lead(5, 0, 5, 0));
        Check.edges("other", 1, 5, Check.INDEX, n -> Chips.each().lead(0, 0, (int) n, 0));
        int[] outputs = {1, 1, 2, 2, 1, 0};
        int[] inputs = {0, 1, 2, 2, 1, 1};
        for (int kind = 0; kind < 6; kind++) {
            int part = kind;
            if (outputs[kind] > 0) {
                Check.edges("out of the kind " + kind, 0, outputs[kind] - 1, Check.INDEX,
                        n -> Chips.each().lead(part, (int) n, 5, 0));
            }
            if (inputs[kind] > 0) {
                Check.edges("in of the kind " + kind, 0, inputs[kind] - 1, Check.INDEX,
                        n -> Chips.each().lead(0, 0, part, (int) n));
            }
        }
    }

    private static void leadAnswersNone() {
        Check.sentence("Promise 4: Returns to which part it led before; NONE.");
        Ringresonance chip = Chips.each();
        Check.due("a first time", chip.lead(0, 0, 1, 0), NONE);
        Check.due("a second time", chip.lead(0, 0, 2, 1), 1);
        Check.due("a third time, to the same part", chip.lead(0, 0, 2, 0), 2);
        Check.due("the part 0 itself is told, too", chip.lead(2, 0, 2, 1), NONE);
        chip.cut(0, 0);
        Check.due("behind cut", chip.lead(0, 0, 5, 0), NONE);
        Ringresonance zero = new Ringresonance();
        zero.part(Ringresonance.COUPLER, 0, 0, 0, 0);
        zero.part(Ringresonance.COUPLER, 0, 0, 0, 0);
        Check.due("to the part 0", zero.lead(0, 0, 0, 0), NONE);
        Check.due("it led to the part 0", zero.lead(0, 0, 1, 0), 0);
        Check.due("the other output led nowhere", zero.lead(0, 1, 0, 1), NONE);
        Check.due("it led to the input 1 of the part 0", zero.cut(0, 1), 0);
    }

    private static void leadThrows() {
        Check.sentence("Promise 4: Throws IllegalStateException if another output leads to that input");
        Ringresonance chip = Chips.each();
        chip.lead(2, 1, 3, 1);
        Check.refuses("another part", Check.STATE, () -> chip.lead(0, 0, 3, 1));
        Check.refuses("the other output", Check.STATE, () -> chip.lead(2, 0, 3, 1));
        Check.refuses("the ring itself", Check.STATE, () -> chip.lead(3, 0, 3, 1));
        Check.due("the same output", chip.lead(2, 1, 3, 1), 3);
        Check.due("the other input", chip.lead(2, 0, 3, 0), NONE);
        Check.refuses("the one of the same part", Check.STATE, () -> chip.lead(2, 1, 3, 0));
        Check.due("it leads where it led", chip.cut(2, 1), 3);
    }

    private static void cutRanges() {
        Check.sentence("Promise 5: part: a part; out: an output of it");
        Check.edges("part", 0, 4, Check.INDEX, n -> Chips.each().cut((int) n, 0));
        int[] outputs = {1, 1, 2, 2, 1, 0};
        for (int kind = 0; kind < 5; kind++) {
            int part = kind;
            Check.edges("out of the kind " + kind, 0, outputs[kind] - 1, Check.INDEX,
                    n -> Chips.each().cut(part, (int) n));
        }
        Check.refuses("the detector's output 0", Check.INDEX, () -> Chips.each().cut(5, 0));
        Check.refuses("the detector's output 1", Check.INDEX, () -> Chips.each().cut(5, 1));
    }

    private static void cutAnswersNone() {
        Check.sentence("Promise 5: Returns to which part it led before; NONE.");
        Ringresonance chip = Chips.each();
        Check.due("one that never led", chip.cut(0, 0), NONE);
        chip.lead(0, 0, 1, 0);
        Check.due("one that led", chip.cut(0, 0), 1);
        Check.due("once more", chip.cut(0, 0), NONE);
        chip.lead(2, 1, 5, 0);
        Check.due("its other output", chip.cut(2, 0), NONE);
        Check.due("that one", chip.cut(2, 1), 5);
    }

    private static void lockRanges() {
        Check.sentence("Promise 6: ring: a part; channel: 0 to 7, or NONE");
        Check.edges("channel", NONE, 7, Check.ARGUMENT, n -> Chips.each().lock(3, (int) n));
        Check.edges("ring", 0, 1, Check.INDEX, n -> twoRings().lock((int) n, 0));
        Check.sentence("Promise 6: Throws IllegalStateException if it is no RING");
        for (int kind = 0; kind < 6; kind++) {
            int part = kind;
            Check.same("the kind " + kind, Check.outcome(() -> Chips.each().lock(part, 0)),
                    kind == 3 ? "-1" : "throws.IllegalStateException");
        }
    }

    private static Ringresonance twoRings() {
        Ringresonance chip = new Ringresonance();
        chip.part(Ringresonance.RING, 0, 0, 0, 0);
        chip.part(Ringresonance.RING, 0, 0, 0, 0);
        return chip;
    }

    private static void lockAnswersNone() {
        Check.sentence("Promise 6: Returns on which channel it was locked before; NONE.");
        Ringresonance chip = twoRings();
        Check.due("a first time", chip.lock(1, 0), NONE);
        Check.due("of the channel 0", chip.lock(1, 7), 0);
        Check.due("of the channel 7", chip.lock(1, 7), 7);
        Check.due("let go", chip.lock(1, NONE), 7);
        Check.due("let go once more", chip.lock(1, NONE), NONE);
        Check.due("the other ring", chip.lock(0, 0), NONE);
        chip.run(8);
        Check.due("a lock that was lost", chip.lock(0, 1), NONE);
        Check.due("and its lost locks stay", chip.ofPart(0, 5), 1);
    }

    private static void runRanges() {
        Check.sentence("Promise 7: ticks: 1 to 100");
        Check.edges("ticks", 1, 100, Check.ARGUMENT, n -> new Ringresonance().run((int) n));
        Check.sentence("Promise 7: Returns how many went by in all.");
        Ringresonance chip = new Ringresonance();
        Check.due("run(1)", chip.run(1), 1);
        Check.due("run(100)", chip.run(100), 101);
        Check.refuses("run(0)", Check.ARGUMENT, () -> chip.run(0));
        Check.due("run(2)", chip.run(2), 103);
    }

    private static void runThrows() {
        Check.sentence("Promise 7: Throws IllegalStateException if it would be more than 20000");
        Ringresonance chip = new Ringresonance();
        for (int i = 0; i < 199; i++) {
            chip.run(100);
        }
        Check.due("run(1)", chip.run(1), 19901);
        Check.refuses("run(100) at 19901", Check.STATE, () -> chip.run(100));
        Check.due("run(99) at 19901", chip.run(99), 20000);
        Check.refuses("run(1) at 20000", Check.STATE, () -> chip.run(1));
        Check.refuses("run(100) at 20000", Check.STATE, () -> chip.run(100));
        Check.due("tick()", chip.tick(), 20000);
    }

    private static void spacingRanges() {
        Check.sentence("Promise 8: least: 0 to 15");
        Check.edges("least", 0, 15, Check.ARGUMENT, n -> new Ringresonance().spacing((int) n));
        Check.sentence("Promise 8: Returns the one before.");
        Ringresonance chip = new Ringresonance();
        Check.due("spacing(0)", chip.spacing(0), 1);
        Check.due("spacing(15)", chip.spacing(15), 0);
        Check.refuses("spacing(16)", Check.ARGUMENT, () -> chip.spacing(16));
        Check.due("spacing(7)", chip.spacing(7), 15);
        Check.due("spacing(7)", chip.spacing(7), 7);
    }

    private static void conflictsAtTheEdges() {
        Check.sentence("Promise 9: Returns how many pairs of parts have a distance below the least.");
        Ringresonance chip = new Ringresonance();
        Check.due("no parts", chip.conflicts(), 0);
        chip.spacing(15);
        Check.due("no parts, 15", chip.conflicts(), 0);
        chip.part(0, 0, 0, 0, 0);
        Check.due("one part is no pair", chip.conflicts(), 0);
        for (int parts = 2; parts <= 16; parts++) {
            chip.part(5, 0, 0, 0, 0);
            Check.due(parts + " at one place", chip.conflicts(), parts * (parts - 1) / 2);
        }
        chip.spacing(0);
        Check.due("none is below 0", chip.conflicts(), 0);
        chip.spacing(1);
        Check.due("0 is below 1", chip.conflicts(), 120);
    }

    private static Ringresonance detectors() {
        Ringresonance chip = new Ringresonance();
        chip.part(Ringresonance.DETECTOR, 0, 0, 0, 0);
        chip.part(Ringresonance.DETECTOR, 0, 0, 0, 0);
        return chip;
    }

    private static void trialRanges() {
        Check.sentence("Promise 10: detector: a part; offset: -8 to 8; ticks: 1 to 100");
        Check.edges("detector", 0, 1, Check.INDEX, n -> detectors().trial((int) n, 0, 1));
        Check.edges("offset", -8, 8, Check.ARGUMENT, n -> detectors().trial(0, (int) n, 1));
        Check.edges("ticks", 1, 100, Check.ARGUMENT, n -> detectors().trial(0, 0, (int) n));
        Check.sentence("Promise 10: Throws IllegalStateException if it is no DETECTOR");
        for (int kind = 0; kind < 6; kind++) {
            int part = kind;
            Check.same("the kind " + kind, Check.outcome(() -> Chips.each().trial(part, 0, 1)),
                    kind == 5 ? "0" : "throws.IllegalStateException");
        }
    }

    private static void yieldsRanges() {
        Check.sentence("Promise 11: detector: a part; ticks: 1 to 100; need: 0 or more");
        Check.edges("detector", 0, 1, Check.INDEX, n -> detectors().yields((int) n, 1, 0));
        Check.edges("ticks", 1, 100, Check.ARGUMENT, n -> detectors().yields(0, (int) n, 0));
        Check.due("need 0", detectors().yields(0, 1, 0), 8);
        Check.due("need 1", detectors().yields(0, 1, 1), 0);
        Check.due("need of the most", detectors().yields(0, 100, Long.MAX_VALUE), 0);
        Check.due("need of 2 to the 32", detectors().yields(0, 100, 1L << 32), 0);
        for (long bad : new long[] {-1, Integer.MIN_VALUE, -(1L << 32), Long.MIN_VALUE}) {
            Check.refuses("need " + bad, Check.ARGUMENT, () -> detectors().yields(0, 1, bad));
        }
        Check.sentence("Promise 11: Throws IllegalStateException if it is no DETECTOR");
        for (int kind = 0; kind < 6; kind++) {
            int part = kind;
            Check.same("the kind " + kind, Check.outcome(() -> Chips.each().yields(part, 1, 0)),
                    kind == 5 ? "8" : "throws.IllegalStateException");
        }
    }

    private static void ofPartRanges() {
        Check.sentence("Promise 12: part: a part; what: 0 to 5");
        Check.edges("part", 0, 5, Check.INDEX, n -> Chips.each().ofPart((int) n, 0));
        for (int kind = 0; kind < 6; kind++) {
            int part = kind;
            Check.edges("what of the kind " + kind, 0, 5, Check.ARGUMENT,
                    n -> Chips.each().ofPart(part, (int) n));
        }
    }

    private static void ofPartAnswersNone() {
        Check.sentence("Promise 12: 2 the center of a ring, NONE for others, 3 the warmth of a ring, 0 for others, "
                + "4 on which channel it is locked, NONE, 5 how many locks it lost");
        Ringresonance chip = Chips.each();
        chip.set(3, 99);
        // 99, 173, 228, 270, 301, 324, 342, 355, 365, 372: 23 times 16.
        chip.run(10);
        for (int part = 0; part < 6; part++) {
            Check.due("kind", chip.ofPart(part, 0), part);
            Check.due("center", chip.ofPart(part, 2), part == 3 ? 23 % 8 : NONE);
            Check.due("warmth", chip.ofPart(part, 3), part == 3 ? 372 : 0);
            Check.due("locked on", chip.ofPart(part, 4), NONE);
            Check.due("lost", chip.ofPart(part, 5), 0);
        }
        chip.lock(3, 0);
        Check.due("locked on the channel 0", chip.ofPart(3, 4), 0);
        chip.lock(3, 7);
        Check.due("locked on the channel 7", chip.ofPart(3, 4), 7);
        chip.run(8);
        Check.due("lost", chip.ofPart(3, 4), NONE);
        Check.due("one lost", chip.ofPart(3, 5), 1);
    }

    private static void comesRanges() {
        Check.sentence("Promise 13: part: a part; in: an input of it; channel: 0 to 7");
        Check.edges("part", 1, 5, Check.INDEX, n -> Chips.each().comes((int) n, 0, 0));
        int[] inputs = {0, 1, 2, 2, 1, 1};
        for (int kind = 0; kind < 6; kind++) {
            int part = kind;
            for (int in = 0; in < inputs[kind]; in++) {
                int at = in;
                Check.edges("channel of the kind " + kind, 0, 7, Check.ARGUMENT,
                        n -> Chips.each().comes(part, at, (int) n));
            }
            if (inputs[kind] > 0) {
                Check.edges("in of the kind " + kind, 0, inputs[kind] - 1, Check.INDEX,
                        n -> Chips.each().comes(part, (int) n, 0));
            }
        }
        Check.refuses("the laser's input 0", Check.INDEX, () -> Chips.each().comes(0, 0, 0));
        Check.sentence("Promise 13: Returns how many photons come to an input in the next tick.");
        Ringresonance chip = Chips.through(7, 5, Chips.COUPLER, 0, 20, 1);
        Check.due("ahead of all ticks", chip.comes(1, 1, 7), 0);
        chip.run(1);
        Check.due("to the input 1", chip.comes(1, 1, 7), 5);
        Check.due("to the input 0", chip.comes(1, 0, 7), 0);
        Check.due("asked again", chip.comes(1, 1, 7), 5);
        chip.run(1);
        Check.due("to the detector behind the output 0", chip.comes(2, 0, 7), 1);
        Check.due("to the detector behind the output 1", chip.comes(3, 0, 7), 4);
    }

    private static void seenRanges() {
        Check.sentence("Promise 14: detector: a part; channel: 0 to 7, or NONE for all");
        Check.edges("detector", 0, 1, Check.INDEX, n -> detectors().seen((int) n, 0));
        Check.edges("channel", NONE, 7, Check.ARGUMENT, n -> detectors().seen(1, (int) n));
        Check.sentence("Promise 14: Throws IllegalStateException if it is no DETECTOR");
        for (int kind = 0; kind < 6; kind++) {
            int part = kind;
            Check.same("the kind " + kind, Check.outcome(() -> Chips.each().seen(part, 0)),
                    kind == 5 ? "0" : "throws.IllegalStateException");
            Check.same("the kind " + kind + ", all", Check.outcome(() -> Chips.each().seen(part, NONE)),
                    kind == 5 ? "0" : "throws.IllegalStateException");
        }
        Check.sentence("Promise 14: Returns how many photons a detector has seen.");
        Ringresonance chip = Chips.through(7, 5, Chips.COUPLER, 0, 20, 1);
        int other = chip.part(Ringresonance.LASER, 0, 0, 0, 10);
        chip.lead(other, 0, 1, 0);
        chip.run(12);
        Check.due("of the channel 0", chip.seen(2, 0), 10 * 8);
        Check.due("of the channel 7", chip.seen(2, 7), 10);
        Check.due("of the channel 3", chip.seen(2, 3), 0);
        Check.due("of all", chip.seen(2, NONE), 90);
        Check.due("of all, the other detector", chip.seen(3, NONE), 10 * 2 + 10 * 4);
    }

    private static void accountRanges() {
        Check.sentence("Promise 15: what: 0 how many were emitted, 1 lost, 2 leaked, 3 seen, 4 are inside");
        Check.edges("what", 0, 4, Check.ARGUMENT, n -> new Ringresonance().account((int) n));
        for (int what = 0; what < 5; what++) {
            Check.due("of a new chip", new Ringresonance().account(what), 0);
        }
        // As many photons as there can be.
        Ringresonance chip = new Ringresonance();
        for (int part = 0; part < 16; part++) {
            chip.part(Ringresonance.LASER, 0, 0, part % 8, 999);
        }
        for (int i = 0; i < 200; i++) {
            chip.run(100);
        }
        Check.due("emitted of the most", chip.account(0), 16L * 999 * 20000);
        Check.due("leaked of the most", chip.account(2), 16L * 999 * 20000);
        Check.due("inside", chip.account(4), 0);
    }

    private static void tickAnswers() {
        Check.sentence("Promise 16: Returns how many ticks went by.");
        Ringresonance chip = new Ringresonance();
        Check.due("at first", chip.tick(), 0);
        chip.run(1);
        Check.due("behind 1", chip.tick(), 1);
        chip.run(100);
        Check.due("behind 101", chip.tick(), 101);
        Check.refuses("run(101)", Check.ARGUMENT, () -> chip.run(101));
        Check.due("behind a refused one", chip.tick(), 101);
        Check.due("at the most", Chips.ended().tick(), 20000);
    }
}
