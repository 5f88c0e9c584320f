/** Promise 12: ofPart. */
public final class Promise12OfPartTest {
    public static void main(String[] args) {
        Ringresonance chip = new Ringresonance();
        int[] seconds = {10, 20, 30, 40, 50, 0};
        for (int kind = 0; kind < 6; kind++) {
            chip.part(kind, kind, 0, kind == Ringresonance.GUIDE ? 8 : 0, seconds[kind]);
        }
        chip.lock(3, 5);
        for (int kind = 0; kind < 6; kind++) {
            boolean ring = kind == Ringresonance.RING;
            Check.due("kind", chip.ofPart(kind, 0), kind);
            Check.due("second", chip.ofPart(kind, 1), seconds[kind]);
            Check.due("center", chip.ofPart(kind, 2), ring ? 0 : -1);
            Check.due("warmth", chip.ofPart(kind, 3), 0);
            Check.due("locked on", chip.ofPart(kind, 4), ring ? 5 : -1);
            Check.due("lost locks", chip.ofPart(kind, 5), 0);
        }
        chip.run(1);
        for (int kind = 0; kind < 6; kind++) {
            boolean ring = kind == Ringresonance.RING;
            Check.due("second", chip.ofPart(kind, 1), seconds[kind] + (ring ? 1 : 0));
            Check.due("center", chip.ofPart(kind, 2), ring ? 2 : -1);
            Check.due("warmth", chip.ofPart(kind, 3), ring ? 40 : 0);
        }
        chip.run(7);
        Check.due("lost locks", chip.ofPart(3, 5), 1);
        Check.due("locked on", chip.ofPart(3, 4), -1);
        refusals(chip);
        centers();
        Check.end();
    }

    private static void refusals(Ringresonance chip) {
        for (int bad : new int[] {-1, 6, 16, Integer.MIN_VALUE, Integer.MAX_VALUE}) {
            Check.refuses("part " + bad, Check.INDEX, () -> chip.ofPart(bad, 0));
            Check.refuses("part " + bad + ", what 6", Check.INDEX, () -> chip.ofPart(bad, 6));
        }
        for (int bad : new int[] {-1, 6, Integer.MIN_VALUE, Integer.MAX_VALUE}) {
            Check.refusesUnchanged(chip, 6, "what " + bad, Check.ARGUMENT, () -> chip.ofPart(3, bad));
            Check.refuses("what " + bad + " of a laser", Check.ARGUMENT, () -> chip.ofPart(0, bad));
        }
    }

    private static void centers() {
        Ringresonance chip = new Ringresonance();
        chip.part(Ringresonance.RING, 0, 0, 7, 4);
        int[] warmths = {4, 7, 9, 10, 11, 12, 13, 14, 15, 16, 16};
        for (int warmth : warmths) {
            chip.run(1);
            Check.due("warmth", chip.ofPart(0, 3), warmth);
            Check.due("center by the remainder by 8", chip.ofPart(0, 2), warmth < 16 ? 7 : 0);
        }
    }
}
