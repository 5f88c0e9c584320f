/** What all tests share: answers that are due, refusals that are due, and what a chip tells of itself. */
final class Check {
    interface Call {
        long answer();
    }

    interface Maker {
        Ringresonance make();
    }

    interface Asked {
        long answer(Ringresonance chip);
    }

    static final Class<? extends RuntimeException> INDEX = IndexOutOfBoundsException.class;
    static final Class<? extends RuntimeException> ARGUMENT = IllegalArgumentException.class;
    static final Class<? extends RuntimeException> STATE = IllegalStateException.class;

    private static String sentence = "";
    private static int wrong = 0;
    private static int checked = 0;

    private Check() {
    }

    /** The words of the document to which the checks hold that follow. */
    static void sentence(String words) {
        sentence = words;
    }

    static void due(String call, long got, long want) {
        checked++;
        if (got != want) {
            complain(call + " answered " + got + ", due is " + want);
        }
    }

    static void same(String call, String got, String want) {
        checked++;
        if (!got.equals(want)) {
            complain(call + " answered " + got + ", due is " + want);
        }
    }

    /** The call must throw just this exception, and none of those that extend it. */
    static void refuses(String call, Class<? extends RuntimeException> want, Call made) {
        same(call, outcome(made), "throws." + want.getSimpleName());
    }

    /** The refused call must also leave all that the chip tells as it was. */
    static void refusesUnchanged(
            Ringresonance chip, int parts, String call, Class<? extends RuntimeException> want, Call made) {
        String before = tells(chip, parts);
        refuses(call, want, made);
        same("after " + call + " the chip", tells(chip, parts), before);
    }

    /** A chip that refused the call must go on just as one that never heard it. */
    static void refusesWholly(
            Maker maker, int parts, String call, Class<? extends RuntimeException> want, Asked made) {
        Ringresonance heard = maker.make();
        Ringresonance other = maker.make();
        refuses(call, want, () -> made.answer(heard));
        goOnAlike(heard, other, parts, call);
    }

    /** A chip that was asked must go on just as one that was not. */
    static void asksOnly(Maker maker, int parts, String call, Asked made) {
        Ringresonance asked = maker.make();
        Ringresonance other = maker.make();
        made.answer(asked);
        goOnAlike(asked, other, parts, call);
    }

    private static void goOnAlike(Ringresonance one, Ringresonance other, int parts, String call) {
        same("after " + call + " the chip", tells(one, parts), tells(other, parts));
        same("after " + call + " run(9)", outcome(() -> one.run(9)), outcome(() -> other.run(9)));
        same("after " + call + " and run(9) the chip", tells(one, parts), tells(other, parts));
        due("after " + call + " spacing(0)", one.spacing(0), other.spacing(0));
        same("after " + call + " a next part", outcome(() -> one.part(5, 0, 0, 0, 0)),
                outcome(() -> other.part(5, 0, 0, 0, 0)));
    }

    /**
     * An argument must be taken at its least and its most, and refused one below and one above, and
     * far away.
     */
    static void edges(
            String call, long least, long most, Class<? extends RuntimeException> want, EdgeCall made) {
        for (long good : new long[] {least, most}) {
            String got = outcome(() -> made.answer(good));
            same(call + " with " + good + " is taken: " + got, got.startsWith("throws") ? "no" : "yes", "yes");
        }
        for (long bad : new long[] {least - 1, most + 1, Integer.MIN_VALUE, Integer.MAX_VALUE}) {
            refuses(call + " with " + bad, want, () -> made.answer(bad));
        }
    }

    interface EdgeCall {
        long answer(long argument);
    }

    static String outcome(Call made) {
        try {
            return Long.toString(made.answer());
        } catch (RuntimeException thrown) {
            return "throws." + thrown.getClass().getSimpleName();
        }
    }

    /** All that a chip tells of itself without being changed. */
    static String tells(Ringresonance chip, int parts) {
        StringBuilder all = new StringBuilder();
        all.append("ticks ").append(chip.tick()).append(" conflicts ").append(chip.conflicts());
        for (int what = 0; what < 5; what++) {
            all.append(' ').append(chip.account(what));
        }
        for (int part = 0; part < parts; part++) {
            all.append(" part ").append(part);
            for (int what = 0; what < 6; what++) {
                all.append(' ').append(chip.ofPart(part, what));
            }
            if (chip.ofPart(part, 0) == Ringresonance.DETECTOR) {
                all.append(" seen ").append(chip.seen(part, Ringresonance.NONE));
            }
        }
        return all.toString();
    }

    private static void complain(String text) {
        wrong++;
        if (wrong <= 40) {
            System.out.println("  " + (sentence.isEmpty() ? "" : "\"" + sentence + "\": ") + text);
        }
    }

    static void end() {
        System.out.println(checked + " checks, " + wrong + " wrong");
        if (wrong != 0 || checked == 0) {
            System.exit(1);
        }
    }
}
