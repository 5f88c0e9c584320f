/** Promise 13: comes. */
public final class Promise13ComesTest {
    private static final int[] INPUTS = {0, 1, 2, 2, 1, 1};

    public static void main(String[] args) {
        Ringresonance chip = fresh();
        for (int kind = 0; kind < 6; kind++) {
            for (int in : new int[] {Integer.MIN_VALUE, -1, 0, 1, 2, Integer.MAX_VALUE}) {
                int part = kind;
                boolean there = in >= 0 && in < INPUTS[kind];
                String call = "comes(" + part + ", " + in + ", 0)";
                Check.same(call, Check.outcome(() -> chip.comes(part, in, 0)),
                        there ? "0" : "throws.IndexOutOfBoundsException");
                Check.refuses(call + " of the channel 8", there ? Check.ARGUMENT : Check.INDEX,
                        () -> chip.comes(part, in, 8));
            }
        }
        for (int bad : new int[] {-1, 6, 16, Integer.MIN_VALUE, Integer.MAX_VALUE}) {
            Check.refuses("part " + bad, Check.INDEX, () -> chip.comes(bad, 0, 0));
        }
        for (int bad : new int[] {-1, 8, Integer.MIN_VALUE, Integer.MAX_VALUE}) {
            Check.refusesUnchanged(chip, 6, "channel " + bad, Check.ARGUMENT, () -> chip.comes(2, 1, bad));
        }
        answers(fresh());
        Check.end();
    }

    private static Ringresonance fresh() {
        Ringresonance chip = new Ringresonance();
        for (int kind = 0; kind < 6; kind++) {
            chip.part(kind, kind, 0, kind == Ringresonance.GUIDE ? 2 : 0, 0);
        }
        return chip;
    }

    private static void answers(Ringresonance chip) {
        chip.set(0, 40);
        chip.set(2, 25);
        chip.lead(0, 0, 2, 1);
        chip.lead(2, 0, 1, 0);
        chip.lead(2, 1, 5, 0);
        chip.lead(1, 0, 4, 0);
        long[][] want = {{40, 0, 0, 0}, {40, 10, 30, 0}, {40, 10, 30, 0}, {40, 10, 30, 10}};
        for (long[] row : want) {
            chip.run(1);
            Check.due("to the coupler's input 1", chip.comes(2, 1, 0), row[0]);
            Check.due("to the coupler's input 0", chip.comes(2, 0, 0), 0);
            Check.due("to the guide", chip.comes(1, 0, 0), row[1]);
            Check.due("to the detector", chip.comes(5, 0, 0), row[2]);
            Check.due("to the switch", chip.comes(4, 0, 0), row[3]);
            for (int channel = 1; channel < 8; channel++) {
                Check.due("of another channel", chip.comes(2, 1, channel), 0);
            }
        }
    }
}
