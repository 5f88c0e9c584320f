/** Promise 5: cut. */
public final class Promise05CutTest {
    private static final int[] OUTPUTS = {1, 1, 2, 2, 1, 0};

    public static void main(String[] args) {
        Ringresonance chip = new Ringresonance();
        for (int kind = 0; kind < 6; kind++) {
            chip.part(kind, 0, 0, kind == Ringresonance.GUIDE ? 1 : 0, 0);
        }
        for (int kind = 0; kind < 6; kind++) {
            for (int out : new int[] {Integer.MIN_VALUE, -1, 0, 1, 2, Integer.MAX_VALUE}) {
                int part = kind;
                boolean there = out >= 0 && out < OUTPUTS[kind];
                Check.same("cut(" + part + ", " + out + ")", Check.outcome(() -> chip.cut(part, out)),
                        there ? "-1" : "throws.IndexOutOfBoundsException");
            }
        }
        for (int bad : new int[] {Integer.MIN_VALUE, -1, 6, 16, Integer.MAX_VALUE}) {
            Check.refusesWholly(Chips::each, 6, "cut(" + bad + ", 0)", Check.INDEX, x -> x.cut(bad, 0));
        }
        Check.due("lead", chip.lead(2, 1, 5, 0), -1);
        Check.due("cut its other output", chip.cut(2, 0), -1);
        Check.due("cut", chip.cut(2, 1), 5);
        Check.due("cut again", chip.cut(2, 1), -1);
        leaks();
        Check.end();
    }

    private static void leaks() {
        Ringresonance chip = new Ringresonance();
        chip.part(Ringresonance.LASER, 0, 0, 6, 10);
        chip.part(Ringresonance.GUIDE, 0, 0, 4, 0);
        chip.part(Ringresonance.DETECTOR, 0, 0, 0, 0);
        chip.lead(0, 0, 1, 0);
        chip.lead(1, 0, 2, 0);
        chip.run(5);
        Check.due("one on its way", chip.comes(2, 0, 6), 10);
        Check.due("cut", chip.cut(1, 0), 2);
        chip.run(3);
        // What was given ahead of the cut comes, what is given behind it leaks.
        Check.due("seen", chip.seen(2, 6), 10);
        Check.due("leaked", chip.account(2), 30);
        Check.due("inside", chip.account(4), 40);
    }
}
