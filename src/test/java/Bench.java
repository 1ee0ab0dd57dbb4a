/**
 * A ProtectedLine with both delays 1, so that what was sent in the latest tick arrives in the next
 * one: it can be seen, and damage can make anything of it.
 */
final class Bench {
    static final int[] ROW = {254, 4, 24, 81, 228, 89, 212, 250, 28, 73};
    static final int GAP = 255;

    final ProtectedLine x;

    private Bench(ProtectedLine x) {
        this.x = x;
    }

    static Bench fresh(int hold, int wait) {
        return new Bench(new ProtectedLine(0, 0, hold, wait));
    }

    /** Behind 12 ticks all is found: both lines are IN, v is 0, the stream is in SYNC. */
    static Bench ready(int hold, int wait) {
        Bench bench = fresh(hold, wait);
        bench.x.tick(12);
        return bench;
    }

    static Bench ready() {
        return ready(0, 0);
    }

    /** As ready, but in the stream no header has begun. */
    static Bench synced() {
        Bench bench = ready();
        bench.pointer(GAP);
        bench.stream(171, 182, 171, 182, 171);
        return bench;
    }

    /** As ready, but B looks for a header and has no byte of one yet. */
    static Bench hunting() {
        Bench bench = ready();
        bench.pointer(GAP);
        return bench;
    }

    /** B has selected line 1, by MANUAL. */
    static Bench over(int hold, int wait) {
        Bench bench = ready(hold, wait);
        bench.x.command(1);
        bench.x.tick(10);
        return bench;
    }

    /** A byte of the frame sent in the latest tick, without the row. */
    static int plain(ProtectedLine x, int line, int place) {
        return place < 2 ? x.sent(line, place) : x.sent(line, place) ^ ROW[place - 2];
    }

    int plain(int line, int place) {
        return plain(x, line, place);
    }

    /** All bytes of the frame sent in the latest tick, joined by ^. */
    int joined(int line) {
        int all = 0;
        for (int place = 0; place < 12; place++) {
            all ^= x.sent(line, place);
        }
        return all;
    }

    /** In the next tick this byte (without the row) arrives at the place. */
    Bench will(int line, int place, int value) {
        x.damage(line, place, plain(line, place) ^ value);
        return this;
    }

    Bench tick(int n) {
        x.tick(n);
        return this;
    }

    /** A tick in which a frame with this pointer byte arrives on line 0. */
    Bench pointer(int value) {
        return will(0, 4, value).tick(1);
    }

    Bench pointers(int times, int value) {
        for (int i = 0; i < times; i++) {
            pointer(value);
        }
        return this;
    }

    /** A tick in which this K of A arrives on line 1. */
    Bench k(int value) {
        return will(1, 3, value).tick(1);
    }

    /** A tick in which what arrives on a line is not good. */
    Bench bad(int line) {
        x.damage(line, 0, 1);
        return tick(1);
    }

    /** Ticks in which these bytes, five in each, are given to the stream reader; v must be 0. */
    Bench stream(int... bytes) {
        if (bytes.length % 5 != 0 || x.pointer() != 0) {
            throw new IllegalArgumentException("not fives, or v is not 0");
        }
        for (int i = 0; i < bytes.length; i++) {
            will(0, 7 + i % 5, bytes[i]);
            if (i % 5 == 4) {
                tick(1);
            }
        }
        return this;
    }
}
