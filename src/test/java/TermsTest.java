/** The document's "Terms", ahead of "Parts": a test for each sentence, at its edges. */
public final class TermsTest {
    private static final int NONE = Ringresonance.NONE;

    public static void main(String[] args) {
        eachPhotonIsSomewhere();
        changesNothing();
        changesNothingWhenFull();
        changesNothingAtTheEnd();
        noSuchPart();
        noSuchOutput();
        noSuchInput();
        firstNamedOfTwo();
        roundedDown();
        ticksFrom0();
        ticksAtMost20000();
        channels();
        calls512();
        Check.end();
    }

    private static void eachPhotonIsSomewhere() {
        Check.sentence("Each photon that was emitted is lost, leaked, seen, or inside.");
        Ringresonance empty = new Ringresonance();
        empty.run(3);
        for (int what = 0; what < 5; what++) {
            Check.due("account(" + what + ") without a laser", empty.account(what), 0);
        }
        Ringresonance chip = Chips.busy();
        for (int i = 0; i < 40; i++) {
            long all = 0;
            for (int what = 1; what < 5; what++) {
                all += chip.account(what);
            }
            Check.due("emitted at " + chip.tick(), chip.account(0), all);
            chip.run(1);
        }
        // Of a guide of the length 8: on the way to it, 7 ticks in it, on the way to the detector.
        Ringresonance guide = Chips.through(3, 100, Chips.GUIDE, 8, 0, 0);
        for (int ticks = 1; ticks < 20; ticks++) {
            guide.run(1);
            Check.due("inside after " + ticks, guide.account(4), 100 * Math.min(ticks, 9));
            Check.due("seen after " + ticks, guide.account(3), 100 * Math.max(ticks - 9, 0));
        }
    }

    private static void refused(String call, Class<? extends RuntimeException> want, Check.Asked made) {
        Check.refusesWholly(Chips::busy, Chips.BUSY, call, want, made);
    }

    private static void changesNothing() {
        Check.sentence("A call that throws an exception changes nothing.");
        refused("part(6, ..)", Check.ARGUMENT, x -> x.part(6, 9, 9, 0, 0));
        refused("part(-1, ..)", Check.ARGUMENT, x -> x.part(-1, 9, 9, 0, 0));
        refused("part with an x of 16", Check.ARGUMENT, x -> x.part(0, 16, 9, 0, 9));
        refused("part with a y of -1", Check.ARGUMENT, x -> x.part(0, 9, -1, 0, 9));
        refused("part with a first of 8", Check.ARGUMENT, x -> x.part(0, 9, 9, 8, 9));
        refused("part with a second of 1000", Check.ARGUMENT, x -> x.part(0, 9, 9, 0, 1000));
        refused("set(10, 1)", Check.INDEX, x -> x.set(10, 1));
        refused("set(laser, 1000)", Check.ARGUMENT, x -> x.set(Chips.A_LASER, 1000));
        refused("set(ring, -1)", Check.ARGUMENT, x -> x.set(Chips.A_RING, -1));
        refused("lead(10, 0, ..)", Check.INDEX, x -> x.lead(10, 0, Chips.A_DETECTOR, 0));
        refused("lead from no output", Check.INDEX, x -> x.lead(Chips.A_LASER, 1, Chips.AN_OPEN_RING, 0));
        refused("lead to no part", Check.INDEX, x -> x.lead(Chips.A_LASER, 0, -1, 0));
        refused("lead to no input", Check.INDEX, x -> x.lead(Chips.A_LASER, 0, Chips.A_GUIDE, 1));
        refused("lead to a taken input", Check.STATE, x -> x.lead(Chips.A_LASER, 0, Chips.A_DETECTOR, 0));
        refused("a first lead to a taken input", Check.STATE,
                x -> x.lead(Chips.A_LONE_LASER, 0, Chips.A_DETECTOR, 0));
        refused("cut(-1, 0)", Check.INDEX, x -> x.cut(-1, 0));
        refused("cut(laser, 1)", Check.INDEX, x -> x.cut(Chips.A_LASER, 1));
        refused("cut(detector, 0)", Check.INDEX, x -> x.cut(Chips.A_DETECTOR, 0));
        refused("lock(10, 3)", Check.INDEX, x -> x.lock(10, 3));
        refused("lock(ring, 8)", Check.ARGUMENT, x -> x.lock(Chips.A_RING, 8));
        refused("lock(ring, -2)", Check.ARGUMENT, x -> x.lock(Chips.A_RING, -2));
        refused("lock(coupler, 3)", Check.STATE, x -> x.lock(Chips.A_COUPLER, 3));
        refused("lock(coupler, NONE)", Check.STATE, x -> x.lock(Chips.A_COUPLER, NONE));
        refused("run(0)", Check.ARGUMENT, x -> x.run(0));
        refused("run(101)", Check.ARGUMENT, x -> x.run(101));
        refused("spacing(16)", Check.ARGUMENT, x -> x.spacing(16));
        refused("spacing(-1)", Check.ARGUMENT, x -> x.spacing(-1));
        refused("trial(10, 0, 5)", Check.INDEX, x -> x.trial(10, 0, 5));
        refused("trial with an offset of 9", Check.ARGUMENT, x -> x.trial(Chips.A_DETECTOR, 9, 5));
        refused("trial of 101 ticks", Check.ARGUMENT, x -> x.trial(Chips.A_DETECTOR, 0, 101));
        refused("trial of a ring", Check.STATE, x -> x.trial(Chips.A_RING, 0, 5));
        refused("yields(10, 5, 1)", Check.INDEX, x -> x.yields(10, 5, 1));
        refused("yields of 0 ticks", Check.ARGUMENT, x -> x.yields(Chips.A_DETECTOR, 0, 1));
        refused("yields with a need of -1", Check.ARGUMENT, x -> x.yields(Chips.A_DETECTOR, 5, -1));
        refused("yields of a ring", Check.STATE, x -> x.yields(Chips.A_RING, 5, 1));
        refused("ofPart(10, 0)", Check.INDEX, x -> x.ofPart(10, 0));
        refused("ofPart(ring, 6)", Check.ARGUMENT, x -> x.ofPart(Chips.A_RING, 6));
        refused("comes(10, 0, 3)", Check.INDEX, x -> x.comes(10, 0, 3));
        refused("comes(laser, 0, 3)", Check.INDEX, x -> x.comes(Chips.A_LASER, 0, 3));
        refused("comes of the channel 8", Check.ARGUMENT, x -> x.comes(Chips.A_GUIDE, 0, 8));
        refused("seen(10, 3)", Check.INDEX, x -> x.seen(10, 3));
        refused("seen of the channel 8", Check.ARGUMENT, x -> x.seen(Chips.A_DETECTOR, 8));
        refused("seen by a ring", Check.STATE, x -> x.seen(Chips.A_RING, 3));
        refused("account(5)", Check.ARGUMENT, x -> x.account(5));
    }

    private static void changesNothingWhenFull() {
        Check.sentence("A call that throws an exception changes nothing.");
        Check.refusesWholly(Chips::full, 16, "a 17th part", Check.STATE, x -> x.part(0, 9, 9, 0, 9));
        Check.refusesWholly(Chips::full, 16, "a 17th ring", Check.STATE, x -> x.part(3, 3, 0, 0, 99));
        Check.refusesWholly(Chips::full, 16, "a 17th part of no kind", Check.ARGUMENT, x -> x.part(6, 9, 9, 0, 0));
        Check.refusesWholly(Chips::full, 16, "set(16, 1)", Check.INDEX, x -> x.set(16, 1));
        Check.refusesWholly(Chips::full, 16, "cut(16, 0)", Check.INDEX, x -> x.cut(16, 0));
        Check.refusesWholly(Chips::full, 16, "lead to the part 16", Check.INDEX, x -> x.lead(15, 0, 16, 0));
    }

    private static void changesNothingAtTheEnd() {
        Check.sentence("A call that throws an exception changes nothing.");
        Check.refusesWholly(Chips::ended, 2, "run(1) at 20000", Check.STATE, x -> x.run(1));
        Check.refusesWholly(Chips::ended, 2, "run(100) at 20000", Check.STATE, x -> x.run(100));
        Check.refusesWholly(Chips::ended, 2, "run(0) at 20000", Check.ARGUMENT, x -> x.run(0));
    }

    private static void noSuchPart() {
        Check.sentence("IndexOutOfBoundsException: there is no such part, output or input.");
        for (int parts = 0; parts <= 16; parts += 8) {
            Ringresonance chip = new Ringresonance();
            for (int i = 0; i < parts; i++) {
                chip.part(Ringresonance.COUPLER, 0, 0, 0, 0);
            }
            for (int bad : new int[] {Integer.MIN_VALUE, -1, parts, parts + 1, Integer.MAX_VALUE}) {
                String of = " of the part " + bad + " of " + parts;
                Check.refuses("set" + of, Check.INDEX, () -> chip.set(bad, 0));
                Check.refuses("lead" + of, Check.INDEX, () -> chip.lead(bad, 0, 0, 0));
                Check.refuses("lead to the input" + of, Check.INDEX, () -> chip.lead(0, 0, bad, 0));
                Check.refuses("cut" + of, Check.INDEX, () -> chip.cut(bad, 0));
                Check.refuses("lock" + of, Check.INDEX, () -> chip.lock(bad, 0));
                Check.refuses("trial" + of, Check.INDEX, () -> chip.trial(bad, 0, 1));
                Check.refuses("yields" + of, Check.INDEX, () -> chip.yields(bad, 1, 0));
                Check.refuses("ofPart" + of, Check.INDEX, () -> chip.ofPart(bad, 0));
                Check.refuses("comes" + of, Check.INDEX, () -> chip.comes(bad, 0, 0));
                Check.refuses("seen" + of, Check.INDEX, () -> chip.seen(bad, 0));
            }
        }
    }

    private static void noSuchOutput() {
        Check.sentence("IndexOutOfBoundsException: there is no such part, output or input.");
        int[] outputs = {1, 1, 2, 2, 1, 0};
        for (int kind = 0; kind < 6; kind++) {
            Ringresonance chip = Chips.one(kind);
            chip.part(Ringresonance.COUPLER, 0, 0, 0, 0);
            for (int out : new int[] {Integer.MIN_VALUE, -1, 0, 1, 2, Integer.MAX_VALUE}) {
                boolean there = out >= 0 && out < outputs[kind];
                String of = "of the output " + out + " of the kind " + kind;
                Check.same("lead " + of, Check.outcome(() -> chip.lead(0, out, 1, 0)),
                        there ? "-1" : "throws.IndexOutOfBoundsException");
                Check.same("cut " + of, Check.outcome(() -> chip.cut(0, out)),
                        there ? "1" : "throws.IndexOutOfBoundsException");
            }
        }
    }

    private static void noSuchInput() {
        Check.sentence("IndexOutOfBoundsException: there is no such part, output or input.");
        int[] inputs = {0, 1, 2, 2, 1, 1};
        for (int kind = 0; kind < 6; kind++) {
            Ringresonance chip = Chips.one(kind);
            chip.part(Ringresonance.COUPLER, 0, 0, 0, 0);
            int before = NONE;
            for (int in : new int[] {Integer.MIN_VALUE, -1, 0, 1, 2, Integer.MAX_VALUE}) {
                boolean there = in >= 0 && in < inputs[kind];
                String of = "of the input " + in + " of the kind " + kind;
                Check.same("lead " + of, Check.outcome(() -> chip.lead(1, 0, 0, in)),
                        there ? Integer.toString(before) : "throws.IndexOutOfBoundsException");
                before = there ? 0 : before;
                Check.same("comes " + of, Check.outcome(() -> chip.comes(0, in, 7)),
                        there ? "0" : "throws.IndexOutOfBoundsException");
            }
        }
    }

    private static void firstNamedOfTwo() {
        Check.sentence("If several apply, the one that the throws clause names first is thrown.");
        Ringresonance full = Chips.full();
        Check.refuses("part when full, with a bad kind", Check.ARGUMENT, () -> full.part(6, 0, 0, 0, 0));
        Check.refuses("part when full, with a bad x", Check.ARGUMENT, () -> full.part(0, 16, 0, 0, 0));
        Check.refuses("part when full, with a bad y", Check.ARGUMENT, () -> full.part(0, 0, -1, 0, 0));
        Check.refuses("part when full, with a bad first", Check.ARGUMENT, () -> full.part(0, 0, 0, 8, 0));
        Check.refuses("part when full, with a bad second", Check.ARGUMENT, () -> full.part(0, 0, 0, 0, -1));
        Ringresonance ended = Chips.ended();
        Check.refuses("run at the end, with bad ticks", Check.ARGUMENT, () -> ended.run(101));
        Ringresonance chip = Chips.busy();
        Check.refuses("set of no part, with a bad second", Check.INDEX, () -> chip.set(10, -1));
        Check.refuses("lead of no part, to a taken input", Check.INDEX, () -> chip.lead(10, 0, 7, 0));
        Check.refuses("lead of no output, to a taken input", Check.INDEX, () -> chip.lead(0, 1, 7, 0));
        Check.refuses("lock of no part, on a bad channel", Check.INDEX, () -> chip.lock(10, 8));
        Check.refuses("lock of no ring, on a bad channel", Check.ARGUMENT, () -> chip.lock(0, 8));
        Check.refuses("trial of no part, with a bad offset", Check.INDEX, () -> chip.trial(10, 9, 1));
        Check.refuses("trial of no part, with bad ticks", Check.INDEX, () -> chip.trial(10, 0, 0));
        Check.refuses("trial of no detector, with a bad offset", Check.ARGUMENT, () -> chip.trial(0, 9, 1));
        Check.refuses("trial of no detector, with bad ticks", Check.ARGUMENT, () -> chip.trial(0, 0, 0));
        Check.refuses("yields of no part, with bad ticks", Check.INDEX, () -> chip.yields(10, 0, 1));
        Check.refuses("yields of no part, with a bad need", Check.INDEX, () -> chip.yields(10, 1, -1));
        Check.refuses("yields of no detector, with bad ticks", Check.ARGUMENT, () -> chip.yields(0, 0, 1));
        Check.refuses("yields of no detector, with a bad need", Check.ARGUMENT, () -> chip.yields(0, 1, -1));
        Check.refuses("ofPart of no part, with a bad what", Check.INDEX, () -> chip.ofPart(10, 6));
        Check.refuses("comes of no part, of a bad channel", Check.INDEX, () -> chip.comes(10, 0, 8));
        Check.refuses("comes of no input, of a bad channel", Check.INDEX, () -> chip.comes(0, 0, 8));
        Check.refuses("seen by no part, of a bad channel", Check.INDEX, () -> chip.seen(10, 8));
        Check.refuses("seen by no detector, of a bad channel", Check.ARGUMENT, () -> chip.seen(0, 8));
    }

    private static void roundedDown() {
        Check.sentence("Divisions are rounded down.");
        int[][] lost = {{0, 100, 0}, {1, 99, 0}, {1, 100, 1}, {99, 1, 0}, {100, 1, 1}, {199, 1, 1}, {999, 99, 989}};
        for (int[] row : lost) {
            Ringresonance chip = Chips.through(0, row[0], Chips.GUIDE, 1, row[1], 0);
            chip.run(3);
            Check.due("lost in two ticks of " + row[0] + " by " + row[1], chip.account(1), 2 * row[2]);
            Check.due("seen in a tick of " + row[0] + " by " + row[1], chip.seen(2, 0), row[0] - row[2]);
        }
        int[][] over = {{0, 100, 0}, {1, 99, 0}, {1, 100, 1}, {99, 1, 0}, {100, 1, 1}, {199, 1, 1}, {999, 99, 989}};
        for (int[] row : over) {
            Ringresonance chip = Chips.through(0, row[0], Chips.COUPLER, 0, row[1], 0);
            chip.run(3);
            Check.due("given over of " + row[0] + " by " + row[1], chip.seen(3, 0), row[2]);
            Check.due("the rest of " + row[0] + " by " + row[1], chip.seen(2, 0), row[0] - row[2]);
        }
        int[][] taken = {{1, 0, 0}, {2, 0, 1}, {9, 0, 8}, {10, 0, 9}, {999, 0, 899}, {4, 1, 0}, {5, 1, 1}, {9, 1, 1}};
        for (int[] row : taken) {
            Ringresonance chip = Chips.through(3, row[0], Chips.RING, 3 + row[1], 0, 0);
            chip.run(3);
            Check.due("taken over of " + row[0] + ", " + row[1] + " beside", chip.seen(3, 3), row[2]);
            Check.due("the rest of " + row[0] + ", " + row[1] + " beside", chip.seen(2, 3), row[0] - row[2]);
        }
    }

    private static void ticksFrom0() {
        Check.sentence("Ticks are numbered from 0, the first one that goes by being the tick 0");
        Ringresonance chip = Chips.through(0, 10, Chips.SWITCH, 0, 0b10, 0);
        Check.due("tick() at first", chip.tick(), 0);
        chip.run(2);
        // What is emitted in the tick 0 comes to the switch in the tick 1.
        Check.due("behind a switch that is open in the tick 1", chip.comes(2, 0, 0), 10);
        chip.run(1);
        Check.due("behind the tick 2", chip.comes(2, 0, 0), 0);
        Check.due("tick()", chip.tick(), 3);
    }

    private static void ticksAtMost20000() {
        Check.sentence("at most 20000");
        Ringresonance chip = new Ringresonance();
        for (int i = 0; i < 199; i++) {
            chip.run(100);
        }
        Check.due("run(99)", chip.run(99), 19999);
        Check.refuses("run(2) at 19999", Check.STATE, () -> chip.run(2));
        Check.refuses("run(100) at 19999", Check.STATE, () -> chip.run(100));
        Check.due("tick()", chip.tick(), 19999);
        Check.due("run(1) at 19999", chip.run(1), 20000);
        Check.refuses("run(1) at 20000", Check.STATE, () -> chip.run(1));
        Check.due("tick()", chip.tick(), 20000);
        Ringresonance ended = Chips.ended();
        Check.due("seen in 20000 ticks", ended.seen(1, 3), 19999 * 100);
        Check.due("a trial behind 20000 ticks", ended.trial(1, 0, 100), 99 * 100);
        Check.due("yields behind 20000 ticks", ended.yields(1, 100, 9900), 8);
        Check.due("a part behind 20000 ticks", ended.part(0, 0, 0, 0, 0), 2);
    }

    private static void channels() {
        Check.sentence("There are the channels 0 to 7.");
        Ringresonance chip = new Ringresonance();
        Check.refuses("a laser of the channel -1", Check.ARGUMENT, () -> chip.part(0, 0, 0, -1, 1));
        Check.refuses("a laser of the channel 8", Check.ARGUMENT, () -> chip.part(0, 0, 0, 8, 1));
        for (int channel = 0; channel < 8; channel++) {
            Ringresonance one = Chips.through(channel, 9, Chips.COUPLER, 0, 100, 1);
            one.run(2);
            for (int other = 0; other < 8; other++) {
                Check.due("comes of " + other, one.comes(2, 0, other), other == channel ? 9 : 0);
            }
            one.run(1);
            for (int other = 0; other < 8; other++) {
                Check.due("seen of " + other, one.seen(2, other), other == channel ? 9 : 0);
            }
            Check.refuses("comes of -1", Check.ARGUMENT, () -> one.comes(2, 0, -1));
            Check.refuses("comes of 8", Check.ARGUMENT, () -> one.comes(2, 0, 8));
            Check.refuses("seen of 8", Check.ARGUMENT, () -> one.seen(2, 8));
        }
    }

    private static void calls512() {
        Check.sentence("An object is used for at most 512 calls after it has been made");
        Ringresonance chip = Chips.through(3, 100, Chips.RING, 3, 0, 0);
        for (int call = 8; call <= 511; call++) {
            Check.due("yields, the call " + call, chip.yields(3, 100, 98 * 90), 1);
        }
        Check.due("the call 512", chip.trial(3, 0, 100), 98 * 90);
    }
}
