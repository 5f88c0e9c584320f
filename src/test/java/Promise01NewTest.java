/** Promise 1: no parts, the spacing 1, the tick 0. */
public final class Promise01NewTest {
    public static void main(String[] args) {
        Ringresonance chip = new Ringresonance();
        Check.due("tick()", chip.tick(), 0);
        for (int what = 0; what < 5; what++) {
            Check.due("account(" + what + ")", chip.account(what), 0);
        }
        Check.due("conflicts()", chip.conflicts(), 0);
        Check.refuses("ofPart(0, 0)", Check.INDEX, () -> chip.ofPart(0, 0));
        Check.refuses("set(0, 0)", Check.INDEX, () -> chip.set(0, 0));
        Check.refuses("lead(0, 0, 0, 0)", Check.INDEX, () -> chip.lead(0, 0, 0, 0));
        Check.refuses("cut(0, 0)", Check.INDEX, () -> chip.cut(0, 0));
        Check.refuses("lock(0, 0)", Check.INDEX, () -> chip.lock(0, 0));
        Check.refuses("trial(0, 0, 1)", Check.INDEX, () -> chip.trial(0, 0, 1));
        Check.refuses("yields(0, 1, 0)", Check.INDEX, () -> chip.yields(0, 1, 0));
        Check.refuses("comes(0, 0, 0)", Check.INDEX, () -> chip.comes(0, 0, 0));
        Check.refuses("seen(0, 0)", Check.INDEX, () -> chip.seen(0, 0));
        Check.due("spacing(4)", chip.spacing(4), 1);
        Check.due("run(7) of an empty chip", chip.run(7), 7);
        Check.due("part", chip.part(Ringresonance.LASER, 0, 0, 0, 9), 0);

        Ringresonance other = new Ringresonance();
        Check.due("tick() of another", other.tick(), 0);
        Check.due("spacing(0) of another", other.spacing(0), 1);
        Check.refuses("ofPart(0, 0) of another", Check.INDEX, () -> other.ofPart(0, 0));
        Check.end();
    }
}
