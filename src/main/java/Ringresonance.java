import java.util.Arrays;

/** Light on a chip, counted by its photons, with rings that are warmed, locked and tried. */
public final class Ringresonance {
    public static final int NONE = -1;
    public static final int LASER = 0, GUIDE = 1, COUPLER = 2, RING = 3, SWITCH = 4, DETECTOR = 5;

    private static final int PARTS = 16;
    private static final int SIDES = 2;
    private static final int CHANNELS = 8;
    private static final int LAST_CHANNEL = 7;
    private static final int LAST_PLACE = 15;
    private static final int MOST_SPACING = 15;
    private static final int MOST_OFFSET = 8;
    private static final int OFFSETS = 8;
    private static final int LAST_OF_PART = 5;
    private static final int LAST_ACCOUNT = 4;

    private static final int MOST_TICKS = 20000;
    private static final int MOST_TICKS_AT_ONCE = 100;
    private static final int PATTERN = 8;
    private static final int LONGEST_GUIDE = 8;

    private static final int HUNDREDTHS = 100;
    private static final int CENTER_SHARE = 90;
    private static final int BESIDE_SHARE = 20;
    private static final int MOST_HEAT = 99;
    private static final int HEAT_TO_TARGET = 4;
    private static final int WARMTH_STEP = 4;
    private static final int WARMTH_TO_CENTER = 16;
    private static final int DARK_TICKS_TO_LOSE = 8;

    // What each kind has, from LASER to DETECTOR.
    private static final int[] INPUTS = {0, 1, 2, 2, 1, 1};
    private static final int[] OUTPUTS = {1, 1, 2, 2, 1, 0};
    private static final int[] LEAST_FIRST = {0, 1, 0, 0, 0, 0};
    private static final int[] MOST_FIRST = {7, 8, 0, 7, 0, 0};
    private static final int[] MOST_SECOND = {999, 100, 100, 99, 255, 0};

    private final Layout layout;
    private final Light light;
    private final Light dark;
    private final Locks locks;
    private int least;

    public Ringresonance() {
        layout = new Layout();
        light = new Light(layout);
        dark = new Light(layout);
        locks = new Locks(layout, light);
        least = 1;
    }

    // ---- parts

    public int part(int kind, int x, int y, int first, int second)
            throws IllegalArgumentException, IllegalStateException {
        needRange(kind, LASER, DETECTOR);
        needRange(x, 0, LAST_PLACE);
        needRange(y, 0, LAST_PLACE);
        needRange(first, ofKind(LEAST_FIRST, kind), ofKind(MOST_FIRST, kind));
        needRange(second, 0, ofKind(MOST_SECOND, kind));
        if (layout.count >= PARTS) {
            throw new IllegalStateException("no room for another part");
        }
        return layout.place(kind, x, y, first, second);
    }

    public int set(int part, int second) throws IndexOutOfBoundsException, IllegalArgumentException {
        needPart(part);
        needRange(second, 0, ofKind(MOST_SECOND, layout.kinds[part]));
        int before = layout.seconds[part];
        layout.seconds[part] = second;
        return before;
    }

    public int lead(int part, int out, int other, int in)
            throws IndexOutOfBoundsException, IllegalStateException {
        needOutput(part, out);
        needInput(other, in);
        int from = portOf(part, out);
        int to = portOf(other, in);
        if (layout.isTaken(from, to)) {
            throw new IllegalStateException("another output leads to that input");
        }
        return layout.turn(from, to);
    }

    public int cut(int part, int out) throws IndexOutOfBoundsException {
        needOutput(part, out);
        return layout.turn(portOf(part, out), NONE);
    }

    public int lock(int ring, int channel)
            throws IndexOutOfBoundsException, IllegalArgumentException, IllegalStateException {
        needPart(ring);
        needRange(channel, NONE, LAST_CHANNEL);
        needKind(ring, RING);
        int before = locks.channels[ring];
        locks.begin(ring, channel);
        return before;
    }

    public int run(int ticks) throws IllegalArgumentException, IllegalStateException {
        needRange(ticks, 1, MOST_TICKS_AT_ONCE);
        if (ticks > MOST_TICKS - light.ticks) {
            throw new IllegalStateException("more ticks than may go by");
        }
        for (int i = 0; i < ticks; i++) {
            light.shine();
            light.warm();
            locks.hunt();
        }
        return light.ticks;
    }

    // ---- layout

    public int spacing(int least) throws IllegalArgumentException {
        needRange(least, 0, MOST_SPACING);
        int before = this.least;
        this.least = least;
        return before;
    }

    public int conflicts() {
        int found = 0;
        for (int one = 0; one < layout.count; one++) {
            for (int two = 0; two < one; two++) {
                if (layout.distance(one, two) < least) {
                    found++;
                }
            }
        }
        return found;
    }

    // ---- trials

    public long trial(int detector, int offset, int ticks)
            throws IndexOutOfBoundsException, IllegalArgumentException, IllegalStateException {
        needPart(detector);
        needRange(offset, -MOST_OFFSET, MOST_OFFSET);
        needRange(ticks, 1, MOST_TICKS_AT_ONCE);
        needKind(detector, DETECTOR);
        return tried(detector, offset, ticks);
    }

    public int yields(int detector, int ticks, long need)
            throws IndexOutOfBoundsException, IllegalArgumentException, IllegalStateException {
        needPart(detector);
        needRange(ticks, 1, MOST_TICKS_AT_ONCE);
        if (need < 0) {
            throw new IllegalArgumentException("a need below 0");
        }
        needKind(detector, DETECTOR);
        int enough = 0;
        for (int offset = 0; offset < OFFSETS; offset++) {
            if (tried(detector, offset, ticks) >= need) {
                enough++;
            }
        }
        return enough;
    }

    // ---- asking

    public int ofPart(int part, int what) throws IndexOutOfBoundsException, IllegalArgumentException {
        needPart(part);
        needRange(what, 0, LAST_OF_PART);
        boolean ring = layout.kinds[part] == RING;
        switch (what) {
            case 0:
                return layout.kinds[part];
            case 1:
                return layout.seconds[part];
            case 2:
                return ring ? light.center(part) : NONE;
            case 3:
                return ring ? light.warmths[part] : 0;
            case 4:
                return locks.channels[part];
            default:
                return locks.losts[part];
        }
    }

    public long comes(int part, int in, int channel)
            throws IndexOutOfBoundsException, IllegalArgumentException {
        needInput(part, in);
        needRange(channel, 0, LAST_CHANNEL);
        return light.coming[portOf(part, in) * CHANNELS + channel];
    }

    public long seen(int detector, int channel)
            throws IndexOutOfBoundsException, IllegalArgumentException, IllegalStateException {
        needPart(detector);
        needRange(channel, NONE, LAST_CHANNEL);
        needKind(detector, DETECTOR);
        return channel == NONE
                ? light.seenInAll(detector)
                : light.seenOf[detector * CHANNELS + channel];
    }

    public long account(int what) throws IllegalArgumentException {
        needRange(what, 0, LAST_ACCOUNT);
        switch (what) {
            case 0:
                return light.emitted;
            case 1:
                return light.lost;
            case 2:
                return light.leaked;
            case 3:
                return light.detected;
            default:
                return light.emitted - light.lost - light.leaked - light.detected;
        }
    }

    public int tick() {
        return light.ticks;
    }

    // ---- what the calls share

    private long tried(int detector, int offset, int ticks) {
        dark.restart(offset);
        // No heat changes in a trial, so rings that begin at their targets stay there unwarmed.
        for (int i = 0; i < ticks; i++) {
            dark.shine();
        }
        return dark.seenInAll(detector);
    }

    private void needPart(int part) {
        if (part < 0 || part >= layout.count) {
            throw new IndexOutOfBoundsException("no such part");
        }
    }

    private void needOutput(int part, int out) {
        needPart(part);
        if (out < 0 || out >= ofKind(OUTPUTS, layout.kinds[part])) {
            throw new IndexOutOfBoundsException("no such output");
        }
    }

    private void needInput(int part, int in) {
        needPart(part);
        if (in < 0 || in >= ofKind(INPUTS, layout.kinds[part])) {
            throw new IndexOutOfBoundsException("no such input");
        }
    }

    private void needKind(int part, int kind) {
        if (layout.kinds[part] != kind) {
            throw new IllegalStateException("a part of another kind");
        }
    }

    private static void needRange(int number, int from, int to) {
        if (number < from || number > to) {
            throw new IllegalArgumentException("an argument out of its range");
        }
    }

    private static int ofKind(int[] table, int kind) {
        return kind >= 0 && kind < table.length ? table[kind] : 0;
    }

    private static int portOf(int part, int side) {
        return part * SIDES + side;
    }

    /** The parts, where they are and where their outputs lead: the chip and its trials share it. */
    private static final class Layout {
        // At most PARTS, so that any number below it is an index of the rows of parts.
        int count;
        final int[] kinds = new int[PARTS];
        final int[] xs = new int[PARTS];
        final int[] ys = new int[PARTS];
        final int[] firsts = new int[PARTS];
        final int[] seconds = new int[PARTS];
        // By the port of an output: the port of the input to which it leads, or NONE.
        final int[] leads = new int[PARTS * SIDES];

        Layout() {
            Arrays.fill(leads, NONE);
        }

        /** Takes a next part, if there is room, and answers its number. */
        int place(int kind, int x, int y, int first, int second) {
            int part = count;
            if (part < 0 || part >= PARTS) {
                return NONE;
            }
            kinds[part] = kind;
            xs[part] = x;
            ys[part] = y;
            firsts[part] = first;
            seconds[part] = second;
            count = part + 1;
            return part;
        }

        boolean isTaken(int from, int to) {
            for (int port = 0; port < leads.length; port++) {
                if (port != from && leads[port] == to) {
                    return true;
                }
            }
            return false;
        }

        /** Lets an output lead to another input, or to none, and answers to which part it led. */
        int turn(int from, int to) {
            if (from < 0 || from >= leads.length) {
                return NONE;
            }
            int before = leads[from];
            leads[from] = to;
            return before == NONE ? NONE : before / SIDES;
        }

        int distance(int one, int two) {
            return Math.abs(xs[one] - xs[two]) + Math.abs(ys[one] - ys[two]);
        }

        int target(int ring) {
            int target = HEAT_TO_TARGET * seconds[ring];
            for (int other = 0; other < count; other++) {
                if (other != ring && kinds[other] == RING) {
                    target += seconds[other] / Math.max(1, distance(ring, other));
                }
            }
            return target;
        }
    }

    /** The photons and warmths of one chip with that layout: the chip itself, or one on trial. */
    private static final class Light {
        final Layout layout;
        // By the port of an input and a channel, in this tick and in the next one.
        long[] coming = new long[PARTS * SIDES * CHANNELS];
        long[] given = new long[PARTS * SIDES * CHANNELS];
        // By a guide, the tick by the remainder in which they came, and a channel.
        final long[] underWay = new long[PARTS * LONGEST_GUIDE * CHANNELS];
        // By a part and a channel: those given over in this tick, and those seen ever.
        final long[] crossed = new long[PARTS * CHANNELS];
        final long[] seenOf = new long[PARTS * CHANNELS];
        final int[] warmths = new int[PARTS];
        int offset;
        int ticks;
        long emitted;
        long lost;
        long leaked;
        long detected;

        Light(Layout layout) {
            this.layout = layout;
        }

        /** Makes this the chip of a new trial. */
        void restart(int offset) {
            Arrays.fill(coming, 0L);
            Arrays.fill(underWay, 0L);
            Arrays.fill(seenOf, 0L);
            this.offset = offset;
            ticks = 0;
            emitted = 0;
            lost = 0;
            leaked = 0;
            detected = 0;
            for (int part = 0; part < layout.count; part++) {
                warmths[part] = layout.kinds[part] == RING ? layout.target(part) : 0;
            }
        }

        /** Lets the photons of one tick through all parts. */
        void shine() {
            for (int part = 0; part < layout.count; part++) {
                work(part);
            }
            // Each part has emptied its inputs, so the old row is empty for the next tick.
            long[] emptied = coming;
            coming = given;
            given = emptied;
            ticks++;
        }

        private void work(int part) {
            switch (layout.kinds[part]) {
                case LASER:
                    emit(part);
                    break;
                case GUIDE:
                    guide(part);
                    break;
                case COUPLER:
                case RING:
                    couple(part);
                    break;
                case SWITCH:
                    pass(part);
                    break;
                default:
                    detect(part);
                    break;
            }
        }

        private void emit(int part) {
            int power = layout.seconds[part];
            emitted += power;
            give(part, 0, layout.firsts[part], power);
        }

        private void guide(int part) {
            int loss = layout.seconds[part];
            int delay = layout.firsts[part] - 1;
            int now = slotOf(part, ticks);
            int then = slotOf(part, ticks - delay);
            for (int channel = 0; channel < CHANNELS; channel++) {
                long photons = take(part, 0, channel);
                long less = photons * loss / HUNDREDTHS;
                lost += less;
                // A slot is written anew in each tick, so what it held before needs no emptying.
                underWay[now + channel] = photons - less;
                give(part, 0, channel, underWay[then + channel]);
            }
        }

        private static int slotOf(int part, int tick) {
            return (part * LONGEST_GUIDE + Math.floorMod(tick, LONGEST_GUIDE)) * CHANNELS;
        }

        private void couple(int part) {
            boolean ring = layout.kinds[part] == RING;
            int center = center(part);
            for (int channel = 0; channel < CHANNELS; channel++) {
                long first = take(part, 0, channel);
                long second = take(part, 1, channel);
                crossed[part * CHANNELS + channel] = 0;
                // Most channels are dark in most ticks, and a dark one costs less this way.
                if (first == 0 && second == 0) {
                    continue;
                }
                int share = ring ? ringShare(channel - center) : layout.seconds[part];
                // Each input is rounded for itself.
                long over = first * share / HUNDREDTHS;
                long back = second * share / HUNDREDTHS;
                give(part, 0, channel, first - over + back);
                give(part, 1, channel, second - back + over);
                crossed[part * CHANNELS + channel] = over + back;
            }
        }

        private static int ringShare(int fromCenter) {
            int beside = Math.floorMod(fromCenter, CHANNELS);
            if (beside == 0) {
                return CENTER_SHARE;
            }
            return beside == 1 || beside == CHANNELS - 1 ? BESIDE_SHARE : 0;
        }

        int center(int ring) {
            return Math.floorMod(
                    layout.firsts[ring] + offset + warmths[ring] / WARMTH_TO_CENTER, CHANNELS);
        }

        private void pass(int part) {
            boolean open = (layout.seconds[part] >> (ticks % PATTERN) & 1) == 1;
            for (int channel = 0; channel < CHANNELS; channel++) {
                long photons = take(part, 0, channel);
                if (open) {
                    give(part, 0, channel, photons);
                } else {
                    lost += photons;
                }
            }
        }

        private void detect(int part) {
            for (int channel = 0; channel < CHANNELS; channel++) {
                long photons = take(part, 0, channel);
                detected += photons;
                seenOf[part * CHANNELS + channel] += photons;
            }
        }

        private long take(int part, int in, int channel) {
            int at = portOf(part, in) * CHANNELS + channel;
            if (at < 0 || at >= coming.length) {
                return 0;
            }
            long photons = coming[at];
            coming[at] = 0;
            return photons;
        }

        private void give(int part, int out, int channel, long photons) {
            int to = layout.leads[portOf(part, out)];
            if (to < 0 || to >= PARTS * SIDES) {
                leaked += photons;
            } else {
                given[to * CHANNELS + channel] += photons;
            }
        }

        long seenInAll(int detector) {
            long all = 0;
            for (int channel = 0; channel < CHANNELS; channel++) {
                all += seenOf[detector * CHANNELS + channel];
            }
            return all;
        }

        /** Brings each ring's warmth nearer to its target, at the end of a tick. */
        void warm() {
            for (int part = 0; part < layout.count; part++) {
                if (layout.kinds[part] == RING) {
                    warmths[part] += step(layout.target(part) - warmths[part]);
                }
            }
        }

        private static int step(int difference) {
            int step = difference / WARMTH_STEP;
            if (step == 0 && difference != 0) {
                return difference > 0 ? 1 : -1;
            }
            return step;
        }
    }

    /** The locks of the chip's rings. */
    private static final class Locks {
        final Layout layout;
        final Light light;
        final int[] channels = new int[PARTS];
        final int[] losts = new int[PARTS];
        final int[] directions = new int[PARTS];
        final int[] darkTicks = new int[PARTS];
        final long[] befores = new long[PARTS];

        Locks(Layout layout, Light light) {
            this.layout = layout;
            this.light = light;
            Arrays.fill(channels, NONE);
        }

        /** Locks a ring anew on a channel, or lets it go. */
        void begin(int ring, int channel) {
            channels[ring] = channel;
            directions[ring] = 1;
            darkTicks[ring] = 0;
            befores[ring] = 0;
        }

        /** Lets all locked rings hunt, when a tick is over and all warmths have changed. */
        void hunt() {
            for (int part = 0; part < layout.count; part++) {
                int channel = channels[part];
                if (channel >= 0 && channel < CHANNELS) {
                    huntOne(part, light.crossed[part * CHANNELS + channel]);
                }
            }
        }

        private void huntOne(int ring, long crossed) {
            if (crossed < befores[ring]) {
                directions[ring] = -directions[ring];
            }
            befores[ring] = crossed;
            int heat = layout.seconds[ring] + directions[ring];
            layout.seconds[ring] = Math.min(MOST_HEAT, Math.max(0, heat));
            darkTicks[ring] = crossed == 0 ? darkTicks[ring] + 1 : 0;
            if (darkTicks[ring] >= DARK_TICKS_TO_LOSE) {
                channels[ring] = NONE;
                losts[ring]++;
            }
        }
    }
}
