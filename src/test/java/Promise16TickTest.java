/** Promise 16: tick. */
public final class Promise16TickTest {
    public static void main(String[] args) {
        Ringresonance chip = new Ringresonance();
        Check.due("at first", chip.tick(), 0);
        chip.run(1);
        Check.due("after 1", chip.tick(), 1);
        chip.run(100);
        Check.due("after 101", chip.tick(), 101);
        Check.refuses("run(0)", Check.ARGUMENT, () -> chip.run(0));
        chip.part(Ringresonance.DETECTOR, 0, 0, 0, 0);
        chip.trial(0, 0, 50);
        chip.yields(0, 50, 1);
        Check.due("trials let none go by", chip.tick(), 101);
        Check.end();
    }
}
