/** Promise 4: lead. */
public final class Promise04LeadTest {
    private static final int[] INPUTS = {0, 1, 2, 2, 1, 1};
    private static final int[] OUTPUTS = {1, 1, 2, 2, 1, 0};

    public static void main(String[] args) {
        inputsAndOutputs();
        answers();
        taken();
        order();
        asItIsGiven();
        Check.end();
    }

    private static void inputsAndOutputs() {
        for (int kind = 0; kind < 6; kind++) {
            Ringresonance chip = new Ringresonance();
            chip.part(kind, 0, 0, kind == Ringresonance.GUIDE ? 1 : 0, 0);
            chip.part(Ringresonance.COUPLER, 0, 0, 0, 0);
            for (int side = -1; side < 4; side++) {
                int at = side;
                String call = "kind " + kind + ", side " + side;
                boolean out = side >= 0 && side < OUTPUTS[kind];
                boolean in = side >= 0 && side < INPUTS[kind];
                Check.same("lead from " + call, Check.outcome(() -> chip.lead(0, at, 1, 0)),
                        out ? "-1" : "throws.IndexOutOfBoundsException");
                if (out) {
                    Check.due("cut " + call, chip.cut(0, side), 1);
                }
                Check.same("lead to " + call, Check.outcome(() -> chip.lead(1, 0, 0, at)),
                        in ? "-1" : "throws.IndexOutOfBoundsException");
                if (in) {
                    Check.due("cut to " + call, chip.cut(1, 0), 0);
                }
            }
        }
    }

    private static void answers() {
        Ringresonance chip = new Ringresonance();
        chip.part(Ringresonance.COUPLER, 0, 0, 0, 0);
        chip.part(Ringresonance.COUPLER, 0, 0, 0, 0);
        Check.due("to itself", chip.lead(0, 0, 0, 0), -1);
        Check.due("again to the same input", chip.lead(0, 0, 0, 0), 0);
        Check.due("to another part", chip.lead(0, 0, 1, 1), 0);
        Check.due("to the other input of that", chip.lead(0, 0, 1, 0), 1);
        Check.due("the input that was left is free", chip.lead(0, 1, 1, 1), -1);
        Check.due("to itself at the end", chip.lead(0, 1, 0, 1), 1);
        Check.due("and the first one again", chip.lead(0, 1, 0, 1), 0);
    }

    private static void taken() {
        Ringresonance chip = new Ringresonance();
        chip.part(Ringresonance.COUPLER, 0, 0, 0, 0);
        chip.part(Ringresonance.LASER, 0, 0, 0, 1);
        chip.part(Ringresonance.DETECTOR, 0, 0, 0, 0);
        chip.lead(0, 0, 2, 0);
        Check.refusesUnchanged(chip, 3, "another part's output", Check.STATE, () -> chip.lead(1, 0, 2, 0));
        Check.refusesUnchanged(chip, 3, "the same part's other output", Check.STATE, () -> chip.lead(0, 1, 2, 0));
        Check.due("the refused ones lead nowhere", chip.cut(1, 0), -1);
        Check.due("the refused ones lead nowhere", chip.cut(0, 1), -1);
        chip.lead(1, 0, 0, 0);
        Check.refuses("a taken input, from an output that leads", Check.STATE, () -> chip.lead(1, 0, 2, 0));
        Check.due("it leads where it led", chip.cut(1, 0), 0);
        Check.due("and so does the one that took it", chip.cut(0, 0), 2);
        Check.due("then the input is free", chip.lead(1, 0, 2, 0), -1);
    }

    private static void order() {
        Ringresonance chip = new Ringresonance();
        chip.part(Ringresonance.GUIDE, 0, 0, 1, 0);
        chip.part(Ringresonance.GUIDE, 0, 0, 1, 0);
        chip.lead(0, 0, 1, 0);
        Check.refuses("no such part", Check.INDEX, () -> chip.lead(2, 0, 1, 0));
        Check.refuses("no such part", Check.INDEX, () -> chip.lead(-1, 0, 1, 0));
        Check.refuses("no such output, a taken input", Check.INDEX, () -> chip.lead(1, 1, 1, 0));
        Check.refuses("no such other part", Check.INDEX, () -> chip.lead(1, 0, 2, 0));
        Check.refuses("no such other part", Check.INDEX, () -> chip.lead(1, 0, -1, 0));
        Check.refuses("no such input", Check.INDEX, () -> chip.lead(1, 0, 1, 1));
        Check.refuses("far numbers", Check.INDEX,
                () -> chip.lead(Integer.MAX_VALUE, Integer.MIN_VALUE, Integer.MIN_VALUE, Integer.MAX_VALUE));
        Check.refuses("a far output", Check.INDEX, () -> chip.lead(1, Integer.MAX_VALUE, 1, 0));
        Check.refuses("a far input", Check.INDEX, () -> chip.lead(1, 0, 1, Integer.MIN_VALUE));
        Check.refuses("a taken input", Check.STATE, () -> chip.lead(1, 0, 1, 0));
        Check.due("all refused ones changed nothing", chip.cut(1, 0), -1);
    }

    private static void asItIsGiven() {
        Ringresonance chip = new Ringresonance();
        chip.part(Ringresonance.LASER, 0, 0, 0, 10);
        chip.part(Ringresonance.DETECTOR, 0, 0, 0, 0);
        chip.part(Ringresonance.DETECTOR, 0, 0, 0, 0);
        chip.lead(0, 0, 1, 0);
        chip.run(1);
        chip.lead(0, 0, 2, 0);
        Check.due("on their way to the old one", chip.comes(1, 0, 0), 10);
        Check.due("none to the new one", chip.comes(2, 0, 0), 0);
        chip.run(1);
        Check.due("seen by the old one", chip.seen(1, 0), 10);
        chip.run(2);
        Check.due("no more by the old one", chip.seen(1, 0), 10);
        Check.due("seen by the new one", chip.seen(2, 0), 20);
    }
}
