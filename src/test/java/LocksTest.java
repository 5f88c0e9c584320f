/** Of "Warmth, locks", the locks: a test for each sentence, at its edges. */
public final class LocksTest {
    private static final int NONE = Ringresonance.NONE;
    private static final int LASER = 0;
    private static final int RING = 1;

    public static void main(String[] args) {
        lockedOnAChannel();
        whenTheTickIsOver();
        hunts();
        byRisingNumbers();
        fewerTurns();
        fewerByOne();
        turnsRoundAgain();
        ofThatChannel();
        toOutputsOfTheOtherNumber();
        zeroAheadOfTheFirst();
        directionOneAsItIsLocked();
        heldTo99();
        heldTo0();
        directionBehindAnEdge();
        noneIn8Ticks();
        eightInARow();
        sinceItWasLocked();
        lostBehindThat();
        lostAndLockedAgain();
        letGoIsNotLost();
        turnsInADarkTick();
        Check.end();
    }

    /** A laser of the channel 3, a ring of the base 3, alone and with a heat. */
    private static Ringresonance lit(int power, int heat) {
        return Chips.through(3, power, Chips.RING, 3, heat, 0);
    }

    private static int heat(Ringresonance chip) {
        return chip.ofPart(RING, 1);
    }

    private static void tickWith(Ringresonance chip, int power) {
        chip.set(LASER, power);
        chip.run(1);
    }

    private static void lockedOnAChannel() {
        Check.sentence("A ring may be locked on a channel.");
        Ringresonance chip = Chips.each();
        Check.due("at first", chip.ofPart(Chips.RING, 4), NONE);
        int before = NONE;
        for (int channel : new int[] {0, 7, 7, 3, NONE, NONE, 0}) {
            Check.due("lock on " + channel, chip.lock(Chips.RING, channel), before);
            Check.due("locked on", chip.ofPart(Chips.RING, 4), channel);
            before = channel;
        }
        for (int kind = 0; kind < 6; kind++) {
            int part = kind;
            if (kind != Chips.RING) {
                Check.refuses("lock of the kind " + kind, Check.STATE, () -> chip.lock(part, 0));
                Check.refuses("letting go of the kind " + kind, Check.STATE, () -> chip.lock(part, NONE));
                Check.due("locked on", chip.ofPart(kind, 4), NONE);
            }
        }
    }

    private static void whenTheTickIsOver() {
        Check.sentence("When a tick is over, and all warmths have changed, each locked ring hunts");
        // The hunt of a tick tells on warmths in the next one, the own and a neighbour's.
        Ringresonance chip = new Ringresonance();
        chip.part(Ringresonance.RING, 0, 0, 0, 0);
        chip.part(Ringresonance.RING, 0, 0, 0, 0);
        chip.part(Ringresonance.RING, 0, 0, 0, 0);
        chip.lock(1, 0);
        chip.run(1);
        for (int ring = 0; ring < 3; ring++) {
            Check.due("warmth behind the first hunt", chip.ofPart(ring, 3), 0);
            Check.due("heat", chip.ofPart(ring, 1), ring == 1 ? 1 : 0);
        }
        chip.run(1);
        for (int ring = 0; ring < 3; ring++) {
            Check.due("warmth behind the second hunt", chip.ofPart(ring, 3), 1);
            Check.due("heat", chip.ofPart(ring, 1), ring == 1 ? 2 : 0);
        }
    }

    private static void hunts() {
        Check.sentence("each locked ring hunts");
        Ringresonance chip = new Ringresonance();
        for (int part = 0; part < 16; part++) {
            chip.part(Ringresonance.RING, part, 0, 0, 40);
        }
        for (int part = 0; part < 16; part += 3) {
            chip.lock(part, part / 2);
        }
        chip.run(5);
        for (int part = 0; part < 16; part++) {
            Check.due("heat of " + part, chip.ofPart(part, 1), part % 3 == 0 ? 45 : 40);
        }
    }

    private static void byRisingNumbers() {
        Check.sentence("each locked ring hunts, by rising numbers");
        // Two rings one behind the other: each goes by the photons of the tick, not by the other's hunt.
        Ringresonance chip = new Ringresonance();
        chip.part(Ringresonance.LASER, 0, 0, 3, 100);
        chip.part(Ringresonance.RING, 0, 0, 3, 0);
        chip.part(Ringresonance.RING, 15, 15, 3, 0);
        chip.lead(0, 0, 1, 0);
        chip.lead(1, 1, 2, 0);
        chip.run(3);
        chip.lock(1, 3);
        chip.lock(2, 3);
        chip.run(1);
        Check.due("the first ring", chip.ofPart(1, 1), 1);
        Check.due("the second ring", chip.ofPart(2, 1), 1);
        chip.set(0, 50);
        chip.run(2);
        // The first one sees fewer, and turns: up, down. The second one only a tick later.
        Check.due("the first ring turned", chip.ofPart(1, 1), 1);
        Check.due("the second ring not yet", chip.ofPart(2, 1), 3);
        chip.run(1);
        Check.due("the first ring goes on", chip.ofPart(1, 1), 0);
        Check.due("the second ring turned", chip.ofPart(2, 1), 2);
    }

    private static void fewerTurns() {
        Check.sentence("if fewer photons of that channel were given over to outputs of the other number in this "
                + "tick than in the tick ahead");
        Ringresonance chip = lit(100, 0);
        chip.run(2);
        chip.lock(RING, 3);
        tickWith(chip, 100);
        Check.due("90 of 0 ahead: more", heat(chip), 1);
        tickWith(chip, 50);
        Check.due("90 of 90: as many", heat(chip), 2);
        tickWith(chip, 50);
        Check.due("45 of 90: fewer, turned", heat(chip), 1);
        tickWith(chip, 100);
        Check.due("45 of 45: as many, not turned", heat(chip), 0);
    }

    private static void fewerByOne() {
        Check.sentence("if fewer photons of that channel were given over");
        int[][] rows = {{10, 10, 3}, {10, 9, 1}, {9, 10, 3}, {10, 0, 1}, {1, 2, 3}, {2, 1, 1}, {999, 998, 1}};
        for (int[] row : rows) {
            Ringresonance chip = lit(row[0], 0);
            chip.run(1);
            chip.lock(RING, 3);
            tickWith(chip, row[1]);
            chip.set(RING, 2);
            chip.run(1);
            int over = row[0] * 90 / 100;
            int then = row[1] * 90 / 100;
            Check.due("the heat of 2, by " + then + " behind " + over, heat(chip), row[2]);
        }
    }

    private static void turnsRoundAgain() {
        Check.sentence("its direction, 1 as it is locked, turns round");
        Ringresonance chip = lit(100, 0);
        chip.run(1);
        chip.lock(RING, 3);
        // What the laser emits in a tick comes to the ring in the next one.
        int[] powers = {100, 90, 90, 80, 80, 70, 70, 70};
        int[] heats = {1, 2, 1, 0, 1, 2, 1, 0};
        for (int i = 0; i < powers.length; i++) {
            tickWith(chip, powers[i]);
            Check.due("behind the tick " + chip.tick(), heat(chip), heats[i]);
        }
    }

    private static void ofThatChannel() {
        Check.sentence("if fewer photons of that channel were given over");
        // The locked channel stays dark; another one is given over, and fades.
        Ringresonance chip = lit(100, 0);
        chip.run(2);
        chip.lock(RING, 4);
        tickWith(chip, 50);
        tickWith(chip, 20);
        tickWith(chip, 10);
        Check.due("not turned by another channel", heat(chip), 3);
        Check.due("locked", chip.ofPart(RING, 4), 4);
        chip.run(5);
        Check.due("nor kept by it", chip.ofPart(RING, 4), NONE);
    }

    private static void toOutputsOfTheOtherNumber() {
        Check.sentence("were given over to outputs of the other number");
        // Two away from the center all stay at their number: as dark as none.
        Ringresonance chip = Chips.through(3, 999, Chips.RING, 1, 0, 0);
        chip.run(1);
        chip.lock(RING, 3);
        chip.run(8);
        Check.due("what stays is not given over", chip.ofPart(RING, 5), 1);
        // From the input 1 to the output 0 it is given over, too; and an output that leads nowhere counts.
        Ringresonance back = Chips.through(3, 100, Chips.RING, 3, 0, 1);
        back.cut(RING, 0);
        back.cut(RING, 1);
        back.run(1);
        back.lock(RING, 3);
        back.run(20);
        Check.due("from the input 1", back.ofPart(RING, 4), 3);
        // Both inputs together: 9 and 0, then 0 and 9, are as many.
        Ringresonance both = lit(10, 0);
        int other = both.part(Ringresonance.LASER, 0, 0, 3, 0);
        both.lead(other, 0, RING, 1);
        both.run(1);
        both.lock(RING, 3);
        both.set(LASER, 0);
        both.set(other, 10);
        both.run(1);
        both.run(1);
        Check.due("as many from the other input", heat(both), 2);
        both.set(other, 8);
        both.run(2);
        Check.due("fewer from the other input", heat(both), 2);
    }

    private static void zeroAheadOfTheFirst() {
        Check.sentence("0 ahead of the first one since it was locked");
        Ringresonance chip = lit(100, 0);
        chip.run(2);
        chip.set(LASER, 0);
        chip.run(1);
        chip.lock(RING, 3);
        chip.run(1);
        Check.due("0 of 0 ahead, though 90 were given over ahead of the lock", heat(chip), 1);
        // Locked anew while it is locked: 0 ahead once more.
        Ringresonance anew = lit(100, 0);
        anew.run(1);
        anew.lock(RING, 3);
        tickWith(anew, 50);
        anew.lock(RING, 3);
        anew.run(1);
        Check.due("45, anew", heat(anew), 2);
        Ringresonance other = lit(100, 0);
        other.run(1);
        other.lock(RING, 3);
        tickWith(other, 50);
        other.lock(RING, 4);
        other.run(1);
        Check.due("0 of another channel, anew", heat(other), 2);
    }

    private static void directionOneAsItIsLocked() {
        Check.sentence("its direction, 1 as it is locked");
        Ringresonance chip = lit(100, 0);
        chip.run(1);
        chip.lock(RING, 3);
        tickWith(chip, 50);
        chip.run(1);
        Check.due("turned", heat(chip), 0);
        chip.lock(RING, 3);
        chip.run(1);
        Check.due("1 anew", heat(chip), 1);
        Ringresonance gone = lit(100, 0);
        gone.run(1);
        gone.lock(RING, 3);
        tickWith(gone, 50);
        gone.run(1);
        gone.lock(RING, NONE);
        gone.run(3);
        Check.due("not locked, no hunt", heat(gone), 0);
        gone.lock(RING, 3);
        gone.run(1);
        Check.due("1 behind letting it go", heat(gone), 1);
    }

    private static void heldTo99() {
        Check.sentence("then its heat is more by the direction, held to 0 to 99");
        for (int heat = 95; heat <= 99; heat++) {
            Ringresonance chip = lit(0, heat);
            chip.lock(RING, 0);
            for (int ticks = 1; ticks <= 7; ticks++) {
                chip.run(1);
                Check.due("from " + heat + " in " + ticks, heat(chip), Math.min(99, heat + ticks));
            }
        }
    }

    private static void heldTo0() {
        Check.sentence("then its heat is more by the direction, held to 0 to 99");
        Ringresonance chip = lit(100, 0);
        chip.run(1);
        chip.lock(RING, 3);
        tickWith(chip, 50);
        Check.due("up", heat(chip), 1);
        chip.set(RING, 2);
        int[] heats = {1, 0, 0, 0};
        for (int want : heats) {
            chip.run(1);
            Check.due("down to 0", heat(chip), want);
        }
    }

    private static void directionBehindAnEdge() {
        Check.sentence("held to 0 to 99");
        // Held at 99, its direction is still 1: it turns by fewer photons, and not ahead of that.
        Ringresonance chip = lit(100, 0);
        chip.run(1);
        chip.lock(RING, 3);
        chip.set(RING, 99);
        // The warmth is at 99 behind this tick, and the center six above.
        chip.run(1);
        Check.due("held at 99", heat(chip), 99);
        chip.run(1);
        Check.due("fewer behind that, turned", heat(chip), 98);
        Ringresonance zero = lit(100, 0);
        zero.run(1);
        zero.lock(RING, 3);
        tickWith(zero, 50);
        zero.set(RING, 0);
        zero.run(1);
        Check.due("turned, held at 0", heat(zero), 0);
        tickWith(zero, 40);
        Check.due("as many, held at 0", heat(zero), 0);
        zero.run(1);
        Check.due("fewer, turned back", heat(zero), 1);
    }

    private static void noneIn8Ticks() {
        Check.sentence("If none were in 8 ticks in a row since it was locked, the lock is lost");
        Ringresonance chip = lit(0, 40);
        chip.lock(RING, 3);
        for (int ticks = 1; ticks <= 7; ticks++) {
            chip.run(1);
            Check.due("locked behind " + ticks, chip.ofPart(RING, 4), 3);
            Check.due("none lost behind " + ticks, chip.ofPart(RING, 5), 0);
        }
        chip.run(1);
        Check.due("not locked behind 8", chip.ofPart(RING, 4), NONE);
        Check.due("one lost behind 8", chip.ofPart(RING, 5), 1);
        chip.run(100);
        Check.due("one lost behind 108", chip.ofPart(RING, 5), 1);
        Ringresonance bright = lit(100, 0);
        bright.run(1);
        bright.lock(RING, 3);
        bright.run(100);
        Check.due("still locked, as it is lit at times", bright.ofPart(RING, 5), 0);
    }

    private static void eightInARow() {
        Check.sentence("in 8 ticks in a row");
        for (int dark = 6; dark <= 8; dark++) {
            // So many dark ticks, one that is lit, then dark ones again.
            Ringresonance chip = lit(0, 0);
            chip.lock(RING, 3);
            chip.run(dark - 1);
            tickWith(chip, 2);
            chip.set(LASER, 0);
            chip.run(1);
            Check.due(dark + " dark ones", chip.ofPart(RING, 4), dark < 8 ? 3 : NONE);
            if (dark < 8) {
                chip.run(7);
                Check.due("7 more", chip.ofPart(RING, 4), 3);
                chip.run(1);
                Check.due("8 more", chip.ofPart(RING, 4), NONE);
                Check.due("lost", chip.ofPart(RING, 5), 1);
            }
        }
    }

    private static void sinceItWasLocked() {
        Check.sentence("in 8 ticks in a row since it was locked");
        Ringresonance chip = lit(0, 0);
        chip.run(20);
        chip.lock(RING, 3);
        chip.run(7);
        Check.due("dark ticks ahead of the lock do not count", chip.ofPart(RING, 4), 3);
        chip.lock(RING, 3);
        chip.run(7);
        Check.due("nor those ahead of a new one on the same channel", chip.ofPart(RING, 4), 3);
        chip.lock(RING, 4);
        chip.run(7);
        Check.due("nor those ahead of one on another channel", chip.ofPart(RING, 4), 4);
        chip.lock(RING, NONE);
        chip.run(7);
        chip.lock(RING, 4);
        chip.run(7);
        Check.due("nor those without a lock", chip.ofPart(RING, 4), 4);
        Check.due("none lost", chip.ofPart(RING, 5), 0);
        chip.run(1);
        Check.due("lost", chip.ofPart(RING, 5), 1);
    }

    private static void lostBehindThat() {
        Check.sentence("the lock is lost, behind that");
        Ringresonance chip = lit(0, 10);
        chip.lock(RING, 3);
        chip.run(8);
        Check.due("its heat has changed in the 8th tick, too", heat(chip), 18);
        chip.run(1);
        Check.due("but not in the 9th", heat(chip), 18);
    }

    private static void lostAndLockedAgain() {
        Check.sentence("the lock is lost, behind that");
        Ringresonance chip = lit(0, 0);
        for (int lost = 1; lost <= 5; lost++) {
            Check.due("lock", chip.lock(RING, lost), NONE);
            chip.run(8);
            Check.due("lost", chip.ofPart(RING, 5), lost);
            Check.due("locked on", chip.ofPart(RING, 4), NONE);
            Check.due("heat", heat(chip), 8 * lost);
        }
    }

    private static void letGoIsNotLost() {
        Check.sentence("5 how many locks it lost");
        Ringresonance chip = lit(0, 0);
        chip.lock(RING, 3);
        chip.run(7);
        Check.due("let go", chip.lock(RING, NONE), 3);
        chip.run(8);
        Check.due("lost", chip.ofPart(RING, 5), 0);
        Check.due("heat", heat(chip), 7);
    }

    private static void turnsInADarkTick() {
        Check.sentence("turns round; then its heat is more by the direction");
        Ringresonance chip = lit(100, 0);
        chip.run(1);
        chip.lock(RING, 3);
        tickWith(chip, 0);
        chip.set(RING, 10);
        // 90 ahead, then none: turned at the first dark tick, down in all eight.
        chip.run(8);
        Check.due("heat", heat(chip), 2);
        Check.due("lost", chip.ofPart(RING, 5), 1);
        chip.lock(RING, 3);
        chip.run(1);
        Check.due("direction 1 as it is locked again", heat(chip), 3);
    }
}
