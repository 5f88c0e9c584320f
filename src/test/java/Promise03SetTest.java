/** Promise 3: set. */
public final class Promise03SetTest {
    private static final int[] MOST = {999, 100, 100, 99, 255, 0};

    public static void main(String[] args) {
        ranges();
        refusals();
        works();
        Check.end();
    }

    private static void ranges() {
        Ringresonance chip = new Ringresonance();
        for (int kind = 0; kind < 6; kind++) {
            chip.part(kind, 0, 0, kind == Ringresonance.GUIDE ? 1 : 0, 0);
        }
        for (int kind = 0; kind < 6; kind++) {
            int part = kind;
            int most = MOST[kind];
            Check.due("set to the most of kind " + kind, chip.set(part, most), 0);
            Check.due("it is set", chip.ofPart(part, 1), most);
            for (int bad : new int[] {-1, most + 1, Integer.MIN_VALUE, Integer.MAX_VALUE}) {
                Check.refuses("set(" + part + ", " + bad + ")", Check.ARGUMENT, () -> chip.set(part, bad));
            }
            Check.due("the refused ones changed nothing", chip.set(part, 0), most);
            Check.due("the first is not set", chip.ofPart(part, 0), kind);
        }
    }

    private static void refusals() {
        Ringresonance chip = new Ringresonance();
        chip.part(Ringresonance.LASER, 0, 0, 0, 5);
        for (int bad : new int[] {-1, 1, 16, Integer.MIN_VALUE, Integer.MAX_VALUE}) {
            Check.refusesUnchanged(chip, 1, "set(" + bad + ", 0)", Check.INDEX, () -> chip.set(bad, 0));
            Check.refuses("set(" + bad + ", -1)", Check.INDEX, () -> chip.set(bad, -1));
        }
    }

    private static void works() {
        Ringresonance chip = new Ringresonance();
        chip.part(Ringresonance.LASER, 0, 0, 4, 100);
        chip.part(Ringresonance.GUIDE, 0, 0, 3, 0);
        chip.lead(0, 0, 1, 0);
        chip.run(2);
        Check.due("power", chip.set(0, 0), 100);
        Check.due("loss", chip.set(1, 50), 0);
        chip.run(1);
        // Those that came with a loss of 0 are not lost by that of 50; those of the tick 1 are.
        Check.due("lost", chip.account(1), 50);
        Check.due("emitted", chip.account(0), 200);
        chip.run(9);
        Check.due("leaked", chip.account(2), 150);
    }
}
