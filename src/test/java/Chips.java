/** Chips that several tests begin with. */
final class Chips {
    static final int LASER = Ringresonance.LASER;
    static final int GUIDE = Ringresonance.GUIDE;
    static final int COUPLER = Ringresonance.COUPLER;
    static final int RING = Ringresonance.RING;
    static final int SWITCH = Ringresonance.SWITCH;
    static final int DETECTOR = Ringresonance.DETECTOR;

    /** How many parts busy() has. */
    static final int BUSY = 10;
    // The numbers of some parts of busy().
    static final int A_LASER = 0;
    static final int A_GUIDE = 2;
    static final int A_COUPLER = 3;
    static final int A_RING = 4;
    static final int AN_OPEN_RING = 5;
    static final int A_SWITCH = 6;
    static final int A_DETECTOR = 7;
    static final int A_LONE_LASER = 9;

    private Chips() {
    }

    /** A chip with each kind, two locks, photons on all ways, a spacing of 3, in the midst of a run. */
    static Ringresonance busy() {
        Ringresonance chip = new Ringresonance();
        chip.part(LASER, 0, 0, 3, 100);
        chip.part(LASER, 0, 1, 4, 57);
        chip.part(GUIDE, 1, 0, 4, 7);
        chip.part(COUPLER, 2, 0, 0, 35);
        chip.part(RING, 3, 0, 3, 1);
        chip.part(RING, 5, 1, 3, 2);
        chip.part(SWITCH, 6, 0, 0, 0b10110101);
        chip.part(DETECTOR, 7, 0, 0, 0);
        chip.part(DETECTOR, 7, 1, 0, 0);
        chip.part(LASER, 0, 15, 0, 1);
        chip.lead(0, 0, 2, 0);
        chip.lead(2, 0, 3, 0);
        chip.lead(1, 0, 3, 1);
        chip.lead(3, 0, 4, 0);
        chip.lead(3, 1, 5, 1);
        chip.lead(4, 0, 4, 1);
        chip.lead(4, 1, 6, 0);
        chip.lead(6, 0, 7, 0);
        chip.lead(5, 0, 8, 0);
        chip.spacing(3);
        chip.run(13);
        chip.lock(4, 3);
        chip.lock(5, 4);
        chip.run(6);
        return chip;
    }

    /** The busy chip with lasers behind it, up to 16 parts. */
    static Ringresonance full() {
        Ringresonance chip = busy();
        for (int part = BUSY; part < 16; part++) {
            chip.part(LASER, part, part, part % 8, part);
        }
        return chip;
    }

    /** A laser that leads to a detector, when 20000 ticks went by. */
    static Ringresonance ended() {
        Ringresonance chip = new Ringresonance();
        chip.part(LASER, 0, 0, 3, 100);
        chip.part(DETECTOR, 0, 0, 0, 0);
        chip.lead(0, 0, 1, 0);
        for (int i = 0; i < 200; i++) {
            chip.run(100);
        }
        return chip;
    }

    /** One part of that kind, with its least numbers. */
    static Ringresonance one(int kind) {
        Ringresonance chip = new Ringresonance();
        chip.part(kind, 0, 0, kind == GUIDE ? 1 : 0, 0);
        return chip;
    }

    /** One part of each kind, numbered as the kinds are, with their least numbers; none leads. */
    static Ringresonance each() {
        Ringresonance chip = new Ringresonance();
        for (int kind = LASER; kind <= DETECTOR; kind++) {
            chip.part(kind, kind, 0, kind == GUIDE ? 1 : 0, 0);
        }
        return chip;
    }

    /**
     * A laser (0) into the input of a part (1), and a detector (2 and, if it has two, 3) behind each of
     * its outputs.
     */
    static Ringresonance through(int channel, int power, int kind, int first, int second, int in) {
        Ringresonance chip = new Ringresonance();
        chip.part(LASER, 0, 0, channel, power);
        chip.part(kind, 0, 0, first, second);
        chip.part(DETECTOR, 0, 0, 0, 0);
        chip.lead(0, 0, 1, in);
        chip.lead(1, 0, 2, 0);
        if (kind == COUPLER || kind == RING) {
            chip.part(DETECTOR, 0, 0, 0, 0);
            chip.lead(1, 1, 3, 0);
        }
        return chip;
    }
}
