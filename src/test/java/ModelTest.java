import java.util.ArrayList;
import java.util.List;

/**
 * Long runs of mixed calls, right and wrong ones, each answer held against a second program that
 * keeps every photon as a packet with the tick, the part and the input to which it is bound.
 */
public final class ModelTest {
    private static final int RUNS = 300;
    // Each is followed by a tick(), and an object is used for at most 512 calls.
    private static final int CALLS = 240;
    private static final int[] INPUTS = {0, 1, 2, 2, 1, 1};
    private static final int[] OUTPUTS = {1, 1, 2, 2, 1, 0};
    private static final int[] LEAST = {0, 1, 0, 0, 0, 0};
    private static final int[] MOST = {7, 8, 0, 7, 0, 0};
    private static final int[] SECOND = {999, 100, 100, 99, 255, 0};

    /** A packet of photons on its way to an input, or, with the input -1, inside a guide. */
    private record Packet(int tick, int part, int in, int channel, long photons) {
    }

    private static final class Part {
        int kind;
        int x;
        int y;
        int first;
        int second;
        final int[] toPart = {-1, -1};
        final int[] toIn = {-1, -1};
        int warmth;
        int channel = -1;
        int direction;
        long ahead;
        int darkTicks;
        int lost;
        final long[] crossed = new long[8];
        final long[] seen = new long[8];

        Part copy() {
            Part other = new Part();
            other.kind = kind;
            other.x = x;
            other.y = y;
            other.first = first;
            other.second = second;
            for (int out = 0; out < 2; out++) {
                other.toPart[out] = toPart[out];
                other.toIn[out] = toIn[out];
            }
            return other;
        }
    }

    private static final class Model {
        final List<Part> parts = new ArrayList<>();
        List<Packet> packets = new ArrayList<>();
        List<Packet> next;
        int offset;
        int least = 1;
        int ticks;
        long emitted;
        long lost;
        long leaked;

        void index(boolean good) {
            if (!good) {
                throw new IndexOutOfBoundsException();
            }
        }

        void argument(boolean good) {
            if (!good) {
                throw new IllegalArgumentException();
            }
        }

        void state(boolean good) {
            if (!good) {
                throw new IllegalStateException();
            }
        }

        boolean in(int number, int from, int to) {
            return from <= number && number <= to;
        }

        Part known(int part) {
            index(in(part, 0, parts.size() - 1));
            return parts.get(part);
        }

        int make(int kind, int x, int y, int first, int second) {
            argument(in(kind, 0, 5));
            argument(in(x, 0, 15) && in(y, 0, 15));
            argument(in(first, LEAST[kind], MOST[kind]) && in(second, 0, SECOND[kind]));
            state(parts.size() < 16);
            Part made = new Part();
            made.kind = kind;
            made.x = x;
            made.y = y;
            made.first = first;
            made.second = second;
            parts.add(made);
            return parts.size() - 1;
        }

        int set(int part, int second) {
            Part at = known(part);
            argument(in(second, 0, SECOND[at.kind]));
            int before = at.second;
            at.second = second;
            return before;
        }

        int lead(int part, int out, int other, int in) {
            Part at = known(part);
            index(in(out, 0, OUTPUTS[at.kind] - 1));
            index(in(in, 0, INPUTS[known(other).kind] - 1));
            for (int p = 0; p < parts.size(); p++) {
                for (int o = 0; o < 2; o++) {
                    boolean same = p == part && o == out;
                    state(same || parts.get(p).toPart[o] != other || parts.get(p).toIn[o] != in);
                }
            }
            int before = at.toPart[out];
            at.toPart[out] = other;
            at.toIn[out] = in;
            return before;
        }

        int cut(int part, int out) {
            Part at = known(part);
            index(in(out, 0, OUTPUTS[at.kind] - 1));
            int before = at.toPart[out];
            at.toPart[out] = -1;
            return before;
        }

        int lock(int ring, int channel) {
            Part at = known(ring);
            argument(in(channel, -1, 7));
            state(at.kind == 3);
            int before = at.channel;
            at.channel = channel;
            at.direction = 1;
            at.ahead = 0;
            at.darkTicks = 0;
            return before;
        }

        int run(int count) {
            argument(in(count, 1, 100));
            state(ticks + count <= 20000);
            for (int i = 0; i < count; i++) {
                oneTick();
            }
            return ticks;
        }

        int spacing(int distance) {
            argument(in(distance, 0, 15));
            int before = least;
            least = distance;
            return before;
        }

        int conflicts() {
            int pairs = 0;
            for (Part one : parts) {
                for (Part two : parts) {
                    pairs += one != two && distance(one, two) < least ? 1 : 0;
                }
            }
            return pairs / 2;
        }

        long trial(int detector, int shift, int count) {
            Part at = known(detector);
            argument(in(shift, -8, 8) && in(count, 1, 100));
            state(at.kind == 5);
            return tried(detector, shift, count);
        }

        int yields(int detector, int count, long need) {
            Part at = known(detector);
            argument(in(count, 1, 100) && need >= 0);
            state(at.kind == 5);
            int enough = 0;
            for (int shift = 0; shift < 8; shift++) {
                enough += tried(detector, shift, count) >= need ? 1 : 0;
            }
            return enough;
        }

        int ofPart(int part, int what) {
            Part at = known(part);
            argument(in(what, 0, 5));
            int center = at.kind == 3 ? center(at) : -1;
            return new int[] {at.kind, at.second, center, at.warmth, at.channel, at.lost}[what];
        }

        long comes(int part, int in, int channel) {
            index(in(in, 0, INPUTS[known(part).kind] - 1));
            argument(in(channel, 0, 7));
            return bound(part, in, channel);
        }

        long seen(int detector, int channel) {
            Part at = known(detector);
            argument(in(channel, -1, 7));
            state(at.kind == 5);
            return channel == -1 ? all(at.seen) : at.seen[channel];
        }

        long account(int what) {
            argument(in(what, 0, 4));
            long seen = 0;
            for (Part part : parts) {
                seen += all(part.seen);
            }
            long inside = 0;
            for (Packet packet : packets) {
                inside += packet.photons;
            }
            return new long[] {emitted, lost, leaked, seen, inside}[what];
        }

        long tried(int detector, int shift, int count) {
            Model other = new Model();
            for (Part part : parts) {
                other.parts.add(part.copy());
            }
            for (Part part : other.parts) {
                part.warmth = part.kind == 3 ? other.target(part) : 0;
            }
            other.offset = shift;
            for (int i = 0; i < count; i++) {
                other.oneTick();
            }
            return all(other.parts.get(detector).seen);
        }

        static long all(long[] row) {
            long sum = 0;
            for (long one : row) {
                sum += one;
            }
            return sum;
        }

        static int distance(Part one, Part two) {
            return Math.abs(one.x - two.x) + Math.abs(one.y - two.y);
        }

        int center(Part ring) {
            int sum = ring.first + offset + ring.warmth / 16;
            while (sum < 0) {
                sum += 8;
            }
            return sum % 8;
        }

        int target(Part ring) {
            int sum = 4 * ring.second;
            for (Part other : parts) {
                if (other != ring && other.kind == 3) {
                    int apart = distance(ring, other);
                    sum += apart == 0 ? other.second : other.second / apart;
                }
            }
            return sum;
        }

        long bound(int part, int in, int channel) {
            long sum = 0;
            for (Packet packet : packets) {
                if (packet.tick == ticks && packet.part == part && packet.in == in && packet.channel == channel) {
                    sum += packet.photons;
                }
            }
            return sum;
        }

        void give(int part, int out, int channel, long photons) {
            Part at = parts.get(part);
            if (photons == 0) {
                return;
            }
            if (at.toPart[out] == -1) {
                leaked += photons;
            } else {
                next.add(new Packet(ticks + 1, at.toPart[out], at.toIn[out], channel, photons));
            }
        }

        void oneTick() {
            next = new ArrayList<>();
            for (int part = 0; part < parts.size(); part++) {
                work(part, parts.get(part));
            }
            for (Packet packet : packets) {
                if (packet.in == -1) {
                    release(packet);
                }
            }
            packets = next;
            ticks++;
            for (Part part : parts) {
                part.warmth += part.kind == 3 ? towards(target(part) - part.warmth) : 0;
            }
            for (Part part : parts) {
                if (part.channel != -1) {
                    hunt(part);
                }
            }
        }

        static int towards(int difference) {
            int size = Math.abs(difference);
            int by = size >= 1 && size <= 3 ? 1 : size / 4;
            return difference < 0 ? -by : by;
        }

        void release(Packet packet) {
            if (packet.tick == ticks) {
                give(packet.part, 0, packet.channel, packet.photons);
            } else {
                next.add(packet);
            }
        }

        void work(int part, Part at) {
            if (at.kind == 0) {
                emitted += at.second;
                give(part, 0, at.first, at.second);
            }
            java.util.Arrays.fill(at.crossed, 0);
            for (int in = 0; in < INPUTS[at.kind]; in++) {
                for (int channel = 0; channel < 8; channel++) {
                    long photons = bound(part, in, channel);
                    if (photons > 0) {
                        workOn(part, at, in, channel, photons);
                    }
                }
            }
        }

        void workOn(int part, Part at, int in, int channel, long photons) {
            long hundredths = photons * share(at, channel) / 100;
            switch (at.kind) {
                case 1 -> {
                    lost += hundredths;
                    long rest = photons - hundredths;
                    if (at.first == 1) {
                        give(part, 0, channel, rest);
                    } else if (rest > 0) {
                        next.add(new Packet(ticks + at.first - 1, part, -1, channel, rest));
                    }
                }
                case 2, 3 -> {
                    give(part, 1 - in, channel, hundredths);
                    give(part, in, channel, photons - hundredths);
                    at.crossed[channel] += hundredths;
                }
                case 4 -> {
                    if ((at.second & (1 << (ticks % 8))) != 0) {
                        give(part, 0, channel, photons);
                    } else {
                        lost += photons;
                    }
                }
                default -> at.seen[channel] += photons;
            }
        }

        int share(Part at, int channel) {
            if (at.kind != 3) {
                return at.second;
            }
            int center = center(at);
            if (channel == center) {
                return 90;
            }
            return channel == (center + 1) % 8 || center == (channel + 1) % 8 ? 20 : 0;
        }

        void hunt(Part ring) {
            long now = ring.crossed[ring.channel];
            if (now < ring.ahead) {
                ring.direction *= -1;
            }
            ring.ahead = now;
            ring.second += ring.direction;
            if (ring.second < 0) {
                ring.second = 0;
            }
            if (ring.second > 99) {
                ring.second = 99;
            }
            ring.darkTicks = now > 0 ? 0 : ring.darkTicks + 1;
            if (ring.darkTicks == 8) {
                ring.channel = -1;
                ring.lost++;
            }
        }
    }

    /** Numbers that look mixed and are the same in each run of the tests. */
    private static final class Mixed {
        private long state;

        Mixed(long seed) {
            state = seed * 0x9E3779B97F4A7C15L + 1;
        }

        int below(int bound) {
            state = state * 6364136223846793005L + 1442695040888963407L;
            return (int) ((state >>> 33) % bound);
        }

        int from(int least, int most) {
            return most < least ? least : least + below(most - least + 1);
        }

        /** Mostly within the range, at times at its edges, just beyond or far away. */
        int near(int least, int most) {
            return switch (below(40)) {
                case 0 -> least - 1;
                case 1 -> most + 1;
                case 2 -> below(2) == 0 ? Integer.MIN_VALUE : Integer.MAX_VALUE;
                case 3, 4 -> least;
                case 5, 6 -> most;
                default -> from(least, most);
            };
        }
    }

    public static void main(String[] args) {
        for (int run = 0; run < RUNS; run++) {
            oneRun(run);
        }
        Check.end();
    }

    private static void oneRun(int run) {
        Mixed mixed = new Mixed(run);
        Ringresonance chip = new Ringresonance();
        Model model = new Model();
        int parts = mixed.from(2, 16);
        for (int call = 0; call < CALLS; call++) {
            boolean build = call < parts || mixed.below(60) == 0;
            oneCall(mixed, chip, model, "run " + run + ", call " + call + ": ", build ? 0 : mixed.from(1, 21));
        }
    }

    private static void same(String call, Check.Call asked, Check.Call due) {
        Check.same(call, Check.outcome(asked), Check.outcome(due));
    }

    private static int kind(Mixed mixed) {
        int[] often = {0, 0, 1, 2, 2, 3, 3, 3, 4, 5, 5};
        return mixed.below(30) == 0 ? mixed.near(0, 5) : often[mixed.below(often.length)];
    }

    private static void oneCall(Mixed mixed, Ringresonance chip, Model model, String where, int which) {
        int part = mixed.near(0, model.parts.size() - 1);
        boolean known = part >= 0 && part < model.parts.size();
        int of = known ? model.parts.get(part).kind : 2;
        switch (which) {
            case 0 -> {
                int kind = kind(mixed);
                boolean good = kind >= 0 && kind < 6;
                int x = mixed.near(0, mixed.below(2) == 0 ? 3 : 15);
                int y = mixed.near(0, mixed.below(2) == 0 ? 3 : 15);
                int first = mixed.near(good ? LEAST[kind] : 0, good ? MOST[kind] : 0);
                int second = mixed.near(0, good ? SECOND[kind] : 0);
                same(where + "part(" + kind + ", " + x + ", " + y + ", " + first + ", " + second + ")",
                        () -> chip.part(kind, x, y, first, second), () -> model.make(kind, x, y, first, second));
            }
            case 1, 2 -> {
                int second = mixed.near(0, SECOND[of]);
                same(where + "set(" + part + ", " + second + ")",
                        () -> chip.set(part, second), () -> model.set(part, second));
            }
            case 3, 4, 5, 6 -> {
                int other = mixed.near(0, model.parts.size() - 1);
                int to = other >= 0 && other < model.parts.size() ? model.parts.get(other).kind : 2;
                int out = mixed.near(0, OUTPUTS[of] - 1);
                int in = mixed.near(0, INPUTS[to] - 1);
                same(where + "lead(" + part + ", " + out + ", " + other + ", " + in + ")",
                        () -> chip.lead(part, out, other, in), () -> model.lead(part, out, other, in));
            }
            case 7 -> {
                int out = mixed.near(0, OUTPUTS[of] - 1);
                if (mixed.below(3) == 0) {
                    same(where + "cut(" + part + ", " + out + ")",
                            () -> chip.cut(part, out), () -> model.cut(part, out));
                }
            }
            case 8, 9 -> {
                int channel = mixed.near(-1, 7);
                same(where + "lock(" + part + ", " + channel + ")",
                        () -> chip.lock(part, channel), () -> model.lock(part, channel));
            }
            case 10, 11, 12, 13 -> {
                int ticks = mixed.near(1, mixed.below(8) == 0 ? 100 : 9);
                same(where + "run(" + ticks + ")", () -> chip.run(ticks), () -> model.run(ticks));
            }
            default -> ask(mixed, chip, model, where, which, part, of);
        }
        same(where + "tick()", () -> chip.tick(), () -> model.ticks);
    }

    private static void ask(
            Mixed mixed, Ringresonance chip, Model model, String where, int which, int part, int of) {
        switch (which) {
            case 14 -> {
                int least = mixed.near(0, 15);
                same(where + "spacing(" + least + ")", () -> chip.spacing(least), () -> model.spacing(least));
                same(where + "conflicts()", () -> chip.conflicts(), () -> model.conflicts());
            }
            case 15 -> {
                int shift = mixed.near(-8, 8);
                int ticks = mixed.near(1, 30);
                same(where + "trial(" + part + ", " + shift + ", " + ticks + ")",
                        () -> chip.trial(part, shift, ticks), () -> model.trial(part, shift, ticks));
            }
            case 16 -> {
                int ticks = mixed.near(1, 20);
                long need = mixed.near(0, mixed.below(2) == 0 ? 30 : 3000);
                same(where + "yields(" + part + ", " + ticks + ", " + need + ")",
                        () -> chip.yields(part, ticks, need), () -> model.yields(part, ticks, need));
            }
            case 17, 18 -> {
                int what = mixed.near(0, 5);
                same(where + "ofPart(" + part + ", " + what + ")",
                        () -> chip.ofPart(part, what), () -> model.ofPart(part, what));
            }
            case 19 -> {
                int in = mixed.near(0, INPUTS[of] - 1);
                int channel = mixed.near(0, 7);
                same(where + "comes(" + part + ", " + in + ", " + channel + ")",
                        () -> chip.comes(part, in, channel), () -> model.comes(part, in, channel));
            }
            case 20 -> {
                int channel = mixed.near(-1, 7);
                same(where + "seen(" + part + ", " + channel + ")",
                        () -> chip.seen(part, channel), () -> model.seen(part, channel));
            }
            default -> {
                int what = mixed.near(0, 4);
                same(where + "account(" + what + ")", () -> chip.account(what), () -> model.account(what));
            }
        }
    }
}
