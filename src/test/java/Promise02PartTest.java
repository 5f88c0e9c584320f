/** Promise 2: part. */
public final class Promise02PartTest {
    // By kind: the least and the most first number, the most second number.
    private static final int[][] RANGES = {
        {0, 7, 999}, {1, 8, 100}, {0, 0, 100}, {0, 7, 99}, {0, 0, 255}, {0, 0, 0}
    };

    public static void main(String[] args) {
        for (int kind = Ringresonance.LASER; kind <= Ringresonance.DETECTOR; kind++) {
            rangesOf(kind);
        }
        places();
        kinds();
        sixteen();
        madeLate();
        Check.end();
    }

    private static void rangesOf(int kind) {
        Ringresonance chip = new Ringresonance();
        int least = RANGES[kind][0];
        int most = RANGES[kind][1];
        int second = RANGES[kind][2];
        Check.due("part of kind " + kind, chip.part(kind, 0, 0, least, 0), 0);
        Check.due("part of kind " + kind, chip.part(kind, 15, 15, most, second), 1);
        Check.due("its kind", chip.ofPart(1, 0), kind);
        Check.due("its second", chip.ofPart(1, 1), second);
        int[][] bad = {
            {least - 1, 0}, {most + 1, 0}, {least, -1}, {least, second + 1},
            {Integer.MIN_VALUE, 0}, {Integer.MAX_VALUE, 0}, {least, Integer.MIN_VALUE}, {least, Integer.MAX_VALUE}
        };
        for (int[] pair : bad) {
            Check.refusesUnchanged(chip, 2, "part(" + kind + ", 0, 0, " + pair[0] + ", " + pair[1] + ")",
                    Check.ARGUMENT, () -> chip.part(kind, 0, 0, pair[0], pair[1]));
        }
        Check.due("part after refused ones", chip.part(kind, 0, 0, least, second), 2);
    }

    private static void places() {
        Ringresonance chip = new Ringresonance();
        int[] bad = {-1, 16, Integer.MIN_VALUE, Integer.MAX_VALUE};
        for (int place : bad) {
            Check.refuses("x " + place, Check.ARGUMENT, () -> chip.part(0, place, 0, 0, 0));
            Check.refuses("y " + place, Check.ARGUMENT, () -> chip.part(0, 0, place, 0, 0));
        }
        Check.due("x 15, y 0", chip.part(0, 15, 0, 0, 0), 0);
        Check.due("x 0, y 15", chip.part(0, 0, 15, 0, 0), 1);
    }

    private static void kinds() {
        Ringresonance chip = new Ringresonance();
        int[] bad = {-1, 6, Integer.MIN_VALUE, Integer.MAX_VALUE};
        for (int kind : bad) {
            Check.refuses("kind " + kind, Check.ARGUMENT, () -> chip.part(kind, 0, 0, 0, 0));
        }
        Check.refuses("no part was made", Check.INDEX, () -> chip.ofPart(0, 0));
    }

    private static void sixteen() {
        Ringresonance chip = new Ringresonance();
        for (int part = 0; part < 16; part++) {
            Check.due("part " + part, chip.part(Ringresonance.LASER, part, part, part % 8, part), part);
        }
        Check.refusesUnchanged(chip, 16, "a 17th part", Check.STATE, () -> chip.part(0, 0, 0, 0, 0));
        Check.refuses("a 17th part of a bad kind", Check.ARGUMENT, () -> chip.part(6, 0, 0, 0, 0));
        Check.refuses("a 17th part with a bad y", Check.ARGUMENT, () -> chip.part(0, 0, 16, 0, 0));
        Check.refuses("a 17th part with a bad second", Check.ARGUMENT, () -> chip.part(0, 0, 0, 0, 1000));
        Check.refuses("ofPart(16, 0)", Check.INDEX, () -> chip.ofPart(16, 0));
    }

    private static void madeLate() {
        Ringresonance chip = new Ringresonance();
        chip.run(5);
        chip.part(Ringresonance.LASER, 0, 0, 1, 10);
        chip.part(Ringresonance.GUIDE, 0, 1, 8, 0);
        chip.lead(0, 0, 1, 0);
        chip.run(2);
        Check.due("emitted since it was made", chip.account(0), 20);
        Check.due("a late part leads nowhere", chip.account(2), 0);
        chip.run(8);
        Check.due("the guide's output led nowhere from the start", chip.account(2), 20);
    }
}
