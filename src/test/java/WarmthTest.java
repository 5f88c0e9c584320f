/** Of "Warmth, locks", the warmth: a test for each sentence, at its edges. */
public final class WarmthTest {
    public static void main(String[] args) {
        fourTimesItsHeat();
        neighboursByDistance();
        atOnePlace();
        eachRoundedDown();
        onlyOtherRings();
        fifteenNeighbours();
        zeroAtFirst();
        aQuarterUp();
        aQuarterDown();
        byOneIfOneToThree();
        allTheWay();
        atTheEndOfEachTick();
        Check.end();
    }

    /** A lone ring, as warm as its target for that heat. */
    private static Ringresonance settled(int heat) {
        Ringresonance chip = new Ringresonance();
        chip.part(Ringresonance.RING, 8, 8, 0, heat);
        chip.run(60);
        return chip;
    }

    private static void fourTimesItsHeat() {
        Check.sentence("The target of a ring is 4 times its heat");
        for (int heat : new int[] {0, 1, 50, 98, 99}) {
            Ringresonance chip = settled(heat);
            Check.due("warmth at last, of " + heat, chip.ofPart(0, 3), 4 * heat);
            chip.run(10);
            Check.due("and it stays there", chip.ofPart(0, 3), 4 * heat);
        }
    }

    private static void neighboursByDistance() {
        Check.sentence("for each other ring, that one's heat divided by their distance");
        int[][] rows = {
            {99, 1, 0, 99}, {99, 0, 2, 49}, {98, 2, 0, 49}, {97, 1, 1, 48}, {1, 1, 0, 1}, {1, 1, 1, 0},
            {29, 15, 15, 0}, {30, 15, 15, 1}, {59, 15, 15, 1}, {60, 15, 15, 2}, {99, 15, 15, 3}, {14, 15, 0, 0},
            {15, 15, 0, 1}, {15, 0, 15, 1}
        };
        for (int[] row : rows) {
            Ringresonance chip = new Ringresonance();
            chip.part(Ringresonance.RING, 0, 0, 0, 0);
            chip.part(Ringresonance.RING, row[1], row[2], 0, row[0]);
            chip.run(60);
            Check.due("by " + row[0] + " at " + row[1] + ", " + row[2], chip.ofPart(0, 3), row[3]);
        }
    }

    private static void atOnePlace() {
        Check.sentence("or by 1 if that is 0");
        Ringresonance chip = new Ringresonance();
        chip.part(Ringresonance.RING, 15, 0, 0, 3);
        chip.part(Ringresonance.RING, 15, 0, 0, 50);
        chip.run(60);
        Check.due("of the first", chip.ofPart(0, 3), 12 + 50);
        Check.due("of the second", chip.ofPart(1, 3), 200 + 3);
        Check.refuses("a lone ring is not beside itself: no part", Check.INDEX, () -> chip.ofPart(2, 3));
    }

    private static void eachRoundedDown() {
        Check.sentence("each rounded down");
        // Three heats of 1 at the distance 2: 0 and 0 and 0, not 3 by 2.
        Ringresonance chip = new Ringresonance();
        chip.part(Ringresonance.RING, 5, 5, 0, 0);
        chip.part(Ringresonance.RING, 5, 7, 0, 1);
        chip.part(Ringresonance.RING, 7, 5, 0, 1);
        chip.part(Ringresonance.RING, 4, 4, 0, 1);
        chip.run(20);
        Check.due("warmth", chip.ofPart(0, 3), 0);
        chip.set(1, 3);
        chip.set(2, 3);
        chip.set(3, 3);
        chip.run(20);
        Check.due("warmth", chip.ofPart(0, 3), 3);
    }

    private static void onlyOtherRings() {
        Check.sentence("for each other ring");
        Ringresonance chip = settled(10);
        Check.due("a ring alone", chip.ofPart(0, 3), 40);
        chip.part(Ringresonance.LASER, 8, 8, 0, 99);
        chip.part(Ringresonance.GUIDE, 8, 8, 1, 99);
        chip.part(Ringresonance.COUPLER, 8, 8, 0, 99);
        chip.part(Ringresonance.SWITCH, 8, 8, 0, 99);
        chip.part(Ringresonance.DETECTOR, 8, 8, 0, 0);
        chip.run(20);
        Check.due("among parts of other kinds", chip.ofPart(0, 3), 40);
        for (int part = 1; part < 6; part++) {
            Check.due("no warmth of the part " + part, chip.ofPart(part, 3), 0);
        }
        chip.part(Ringresonance.RING, 8, 9, 0, 5);
        chip.run(1);
        Check.due("a ring that is made later warms at once", chip.ofPart(0, 3), 41);
        chip.run(20);
        Check.due("and by its heat", chip.ofPart(0, 3), 45);
    }

    private static void fifteenNeighbours() {
        Check.sentence("for each other ring, that one's heat divided by their distance, or by 1 if that is 0");
        Ringresonance chip = new Ringresonance();
        for (int part = 0; part < 16; part++) {
            chip.part(Ringresonance.RING, 0, 0, 0, 99);
        }
        for (int i = 0; i < 3; i++) {
            chip.run(100);
        }
        for (int part = 0; part < 16; part++) {
            Check.due("warmth of the most", chip.ofPart(part, 3), 19 * 99);
            Check.due("center", chip.ofPart(part, 2), 19 * 99 / 16 % 8);
        }
    }

    private static void zeroAtFirst() {
        Check.sentence("Its warmth is 0 at first");
        Ringresonance chip = settled(99);
        chip.part(Ringresonance.RING, 8, 8, 0, 99);
        Check.due("of a ring made late", chip.ofPart(1, 3), 0);
        Check.due("its center", chip.ofPart(1, 2), 0);
        chip.run(1);
        // 396 and 99: a quarter of 495.
        Check.due("behind one tick", chip.ofPart(1, 3), 123);
    }

    private static void aQuarterUp() {
        Check.sentence("it goes towards the target by the difference divided by 4, towards 0");
        for (int heat = 1; heat <= 99; heat++) {
            Ringresonance chip = new Ringresonance();
            chip.part(Ringresonance.RING, 0, 0, 0, 0);
            chip.part(Ringresonance.RING, 0, 0, 0, heat);
            chip.run(1);
            int want = heat < 4 ? 1 : heat / 4;
            Check.due("the first step up to " + heat, chip.ofPart(0, 3), want);
        }
    }

    private static void aQuarterDown() {
        Check.sentence("it goes towards the target by the difference divided by 4, towards 0");
        for (int fall = 1; fall <= 99; fall++) {
            Ringresonance chip = new Ringresonance();
            chip.part(Ringresonance.RING, 0, 0, 0, 0);
            chip.part(Ringresonance.RING, 0, 0, 0, 99);
            chip.run(60);
            chip.set(1, 99 - fall);
            chip.run(1);
            int want = fall < 4 ? 1 : fall / 4;
            Check.due("the first step down by " + fall, chip.ofPart(0, 3), 99 - want);
        }
    }

    private static void byOneIfOneToThree() {
        Check.sentence("but by 1, if the difference is 1 to 3 either way");
        int[] steps = {0, 1, 1, 1, 1, 1, 1, 1, 2};
        for (int difference = -8; difference <= 8; difference++) {
            Ringresonance chip = new Ringresonance();
            chip.part(Ringresonance.RING, 0, 0, 0, 5);
            chip.part(Ringresonance.RING, 0, 0, 0, 50);
            chip.run(60);
            Check.due("warmth", chip.ofPart(0, 3), 70);
            chip.set(1, 50 + difference);
            chip.run(1);
            int step = difference < 0 ? -steps[-difference] : steps[difference];
            Check.due("by the difference " + difference, chip.ofPart(0, 3), 70 + step);
        }
    }

    private static void allTheWay() {
        Check.sentence("at the end of each tick it goes towards the target");
        Ringresonance chip = new Ringresonance();
        chip.part(Ringresonance.RING, 0, 0, 0, 5);
        // Differences: 20, 15, 12, 9, 7, 6, 5, 4, 3, 2, 1, 0.
        int[] up = {5, 8, 11, 13, 14, 15, 16, 17, 18, 19, 20, 20};
        for (int want : up) {
            chip.run(1);
            Check.due("up to 20", chip.ofPart(0, 3), want);
        }
        chip.set(0, 0);
        int[] down = {15, 12, 9, 7, 6, 5, 4, 3, 2, 1, 0, 0};
        for (int want : down) {
            chip.run(1);
            Check.due("down to 0", chip.ofPart(0, 3), want);
        }
    }

    private static void atTheEndOfEachTick() {
        Check.sentence("at the end of each tick it goes towards the target");
        // The photons of a tick meet the warmth that the tick ahead left.
        Ringresonance chip = Chips.through(3, 100, Chips.RING, 3, 16, 0);
        int[] warmths = {16, 28, 37, 43, 48};
        int[] shares = {0, 20, 20, 0, 0};
        for (int tick = 0; tick < 5; tick++) {
            chip.run(1);
            Check.due("warmth behind the tick " + tick, chip.ofPart(1, 3), warmths[tick]);
            Check.due("given over in the tick " + tick, chip.comes(3, 0, 3), shares[tick]);
        }
        // A warmth of 16 shows at its very tick's end, not in the photons of that tick.
        Ringresonance edge = Chips.through(3, 100, Chips.RING, 3, 0, 0);
        edge.run(1);
        edge.set(1, 16);
        edge.run(1);
        Check.due("warmth", edge.ofPart(1, 3), 16);
        Check.due("center", edge.ofPart(1, 2), 4);
        Check.due("given over at the center 3", edge.comes(3, 0, 3), 90);
        edge.run(1);
        Check.due("given over at the center 4", edge.comes(3, 0, 3), 20);
        // Of two rings, both go by the heats of the same tick, whichever number they have.
        Ringresonance pair = new Ringresonance();
        pair.part(Ringresonance.RING, 0, 0, 0, 8);
        pair.part(Ringresonance.RING, 0, 0, 0, 8);
        pair.run(1);
        Check.due("warmth of the first", pair.ofPart(0, 3), 10);
        Check.due("warmth of the second", pair.ofPart(1, 3), 10);
    }
}
