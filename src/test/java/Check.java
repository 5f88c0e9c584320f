/** What all tests share: answers that are due, refusals that are due, and what a chip tells of itself. */
final class Check {
    interface Call {
        long answer();
    }

    static final Class<? extends RuntimeException> INDEX = IndexOutOfBoundsException.class;
    static final Class<? extends RuntimeException> ARGUMENT = IllegalArgumentException.class;
    static final Class<? extends RuntimeException> STATE = IllegalStateException.class;

    private static int wrong = 0;
    private static int checked = 0;

    private Check() {
    }

    static void due(String call, long got, long want) {
        checked++;
        if (got != want) {
            complain(call + " answered " + got + ", due is " + want);
        }
    }

    static void same(String call, String got, String want) {
        checked++;
        if (!got.equals(want)) {
            complain(call + " answered " + got + ", due is " + want);
        }
    }

    /** The call must throw just this exception, and none of those that extend it. */
    static void refuses(String call, Class<? extends RuntimeException> want, Call made) {
        same(call, outcome(made), "throws." + want.getSimpleName());
    }

    /** The refused call must also leave all that the chip tells as it was. */
    static void refusesUnchanged(
            Ringresonance chip, int parts, String call, Class<? extends RuntimeException> want, Call made) {
        String before = tells(chip, parts);
        refuses(call, want, made);
        same("after " + call + " the chip", tells(chip, parts), before);
    }

    static String outcome(Call made) {
        try {
            return Long.toString(made.answer());
        } catch (RuntimeException thrown) {
            return "throws." + thrown.getClass().getSimpleName();
        }
    }

    /** All that a chip tells of itself without being changed. */
    static String tells(Ringresonance chip, int parts) {
        StringBuilder all = new StringBuilder();
        all.append("ticks ").append(chip.tick()).append(" conflicts ").append(chip.conflicts());
        for (int what = 0; what < 5; what++) {
            all.append(' ').append(chip.account(what));
        }
        for (int part = 0; part < parts; part++) {
            all.append(" part ").append(part);
            for (int what = 0; what < 6; what++) {
                all.append(' ').append(chip.ofPart(part, what));
            }
            if (chip.ofPart(part, 0) == Ringresonance.DETECTOR) {
                all.append(" seen ").append(chip.seen(part, Ringresonance.NONE));
            }
        }
        return all.toString();
    }

    private static void complain(String text) {
        wrong++;
        if (wrong <= 40) {
            System.out.println("  " + text);
        }
    }

    static void end() {
        System.out.println(checked + " checks, " + wrong + " wrong");
        if (wrong != 0 || checked == 0) {
            System.exit(1);
        }
    }
}
