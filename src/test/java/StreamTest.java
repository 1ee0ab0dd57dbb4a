/**
 * Promises 17 to 20: what B makes of the stream. The stream's bytes are counted from 0; with idles
 * alone, even ones are 182 and odd ones 171. Frame T has 5 * (T - 1) and the four behind it, at
 * places 7 .. 11, and arrives in tick T + 1.
 */
public final class StreamTest {
    private static final int TO_GAP = 64 ^ 255;

    private final Due due = new Due();

    public static void main(String[] args) {
        StreamTest test = new StreamTest();
        test.sync();
        test.presync();
        test.presyncIsNotRepaired();
        test.repairedHeaders();
        test.brokenHeaders();
        test.huntBeginsBehind();
        test.gaps();
        test.delivered();
        test.scrambling();
        test.checks();
        test.otherLengths();
        test.otherLengthsWithCheck();
        test.brokenOff();
        test.passedOver();
        test.got();
        test.due.end("StreamTest");
    }

    private static ProtectedLine ready() {
        return SendingTest.ready();
    }

    private static void damaged(ProtectedLine x, int place, int bits) {
        x.damage(0, place, bits);
        x.tick(1);
    }

    private void counts(String what, ProtectedLine x, int delivered, int dropped) {
        due.is(what + ": delivered", x.delivered(), delivered);
        due.is(what + ": dropped", x.dropped(), dropped);
    }

    private void syncs(String what, ProtectedLine x, int... states) {
        for (int i = 0; i < states.length; i++) {
            x.tick(1);
            due.is("17: " + what + ", tick " + i, x.sync(), states[i]);
        }
    }

    private void sync() {
        syncs("with the pointer", new ProtectedLine(0, 0, 0, 0), 0, 0, 0, 0, 2, 2);
        ProtectedLine x = new ProtectedLine(0, 0, 0, 0);
        x.tick(4);
        // Frame 4 has 171, 182, 171, 182, 171: what is left of it are no two bytes that are a header.
        x.damage(0, 8, 255);
        x.damage(0, 10, 255);
        x.tick(1);
        due.is("17: no header yet", x.sync(), 0);
        due.is("17: but a pointer", x.pointer(), 0);
        x.tick(1);
        due.is("17: two headers", x.sync(), 2);
    }

    /** A frame of six bytes whose header is at 16 and 17, which is the first that B sees. */
    private static ProtectedLine headerFirst() {
        ProtectedLine x = new ProtectedLine(0, 0, 0, 0);
        x.tick(3);
        x.send(6, 0x060504030201L);
        x.tick(1);
        return x;
    }

    private void presync() {
        ProtectedLine x = headerFirst();
        due.is("17: taken at 16", x.waiting(), 0);
        syncs("seven bytes are passed over, a header follows at 25", x, 1, 1, 2, 2);
        counts("17: passed over", x, 0, 0);
    }

    private void presyncIsNotRepaired() {
        ProtectedLine x = headerFirst();
        x.tick(2);
        due.is("17: PRESYNC", x.sync(), 1);
        damaged(x, 7, 1);
        due.is("17: 25 and 26 are no header, 27 and 28 are", x.sync(), 1);
        x.tick(1);
        due.is("17: 29 and 30 are one", x.sync(), 2);
    }

    private void repairedHeaders() {
        for (int bit = 0; bit < 16; bit++) {
            // In tick 13 there come 55 .. 59, with headers at 56 and 58.
            ProtectedLine x = ready();
            damaged(x, 10 + bit / 8, 1 << bit % 8);
            due.is("17: bit " + bit + " is repaired", x.sync(), 2);
            x.tick(1);
            due.is("17: bit " + bit + " was repaired", x.sync(), 2);
            counts("17: an idle is no frame", x, 0, 0);
        }
        for (int bit = 0; bit < 16; bit++) {
            ProtectedLine x = ready();
            x.send(1, 0xab);
            x.tick(1);
            damaged(x, 7 + bit / 8, 1 << bit % 8);
            due.is("17: bit " + bit + " of a frame's header", x.sync(), 2);
            counts("18: bit " + bit + " of a frame's header", x, 1, 0);
            due.is("20: bit " + bit + " of a frame's header", x.got(0, 0), 0xab);
        }
    }

    private void brokenHeaders() {
        for (int bit = 0; bit < 16; bit++) {
            for (int other = 0; other < bit; other++) {
                ProtectedLine x = ready();
                x.damage(0, 10 + bit / 8, 1 << bit % 8);
                x.damage(0, 10 + other / 8, 1 << other % 8);
                x.tick(1);
                due.is("17: bits " + bit + " and " + other + " are not repaired", x.sync(), 0);
                x.tick(1);
                due.is("17: but found again", x.sync(), 2);
            }
        }
    }

    private void huntBeginsBehind() {
        // 56 and 57 become 182 ^ 3, 182; with 58 (182) made 171, 57 and 58 would be a header, and 59 is 182 then.
        ProtectedLine x = ready();
        x.damage(0, 8, 3);
        x.damage(0, 9, 171 ^ 182);
        x.damage(0, 10, 182 ^ 171);
        x.damage(0, 11, 171 ^ 182);
        x.tick(1);
        due.is("17: HUNT begins behind the two bytes", x.sync(), 0);
        // 60 is 182: no header with 59; 61 is 171, a header; 62 and 63 are the next.
        x.tick(1);
        due.is("17: found in the next frame", x.sync(), 2);

        // In HUNT each two bytes one behind the other count: in tick 15 there come 65 .. 69, behind a gap.
        for (int place = 7; place < 11; place++) {
            ProtectedLine y = ready();
            y.tick(1);
            damaged(y, 4, TO_GAP);
            for (int other = 7; other < 12; other++) {
                int idle = other % 2 == 1 ? 171 : 182;
                int want = other == place ? 6 ^ 182 : other == place + 1 ? Model.h(6) ^ 171 : 16 * other;
                y.damage(0, other, idle ^ want);
            }
            y.tick(1);
            due.is("17: a header at place " + place, y.sync(), 1);
        }
    }

    private void gaps() {
        ProtectedLine x = ready();
        damaged(x, 4, TO_GAP);
        due.is("17: a gap", x.sync(), 0);
        x.tick(1);
        due.is("17: behind the gap", x.sync(), 2);
        x.cut(0, true);
        x.tick(1);
        due.is("17: nothing arrives", x.sync(), 0);
        x.cut(0, false);
        // HUNT anew: the last byte before a gap and the first behind it are not one behind the other.
        ProtectedLine y = ready();
        damaged(y, 4, TO_GAP);
        // In tick 14 there come 60 .. 64, no header in them; 64 becomes the first byte of one for L 200.
        for (int place = 7; place < 11; place++) {
            y.damage(0, place, 0x11 * (place - 5));
        }
        damaged(y, 11, 200);
        due.is("17: no header in it", y.sync(), 0);
        damaged(y, 4, TO_GAP);
        // In tick 16 there come 70 .. 74: the second byte of that header, then nothing that is one.
        y.damage(0, 7, 182 ^ 171 ^ Model.h(200));
        y.damage(0, 8, 0x33);
        y.damage(0, 9, 0x5a);
        y.damage(0, 10, 0x33);
        y.damage(0, 11, 0x5a);
        y.tick(1);
        due.is("17: two bytes with a gap between are no header", y.sync(), 0);
        // Each frame while LOST makes HUNT begin too.
        ProtectedLine z = ready();
        for (int i = 0; i < 7; i++) {
            damaged(z, 4, 128);
            due.is("17: read though not understood", z.sync(), 2);
        }
        damaged(z, 4, 128);
        syncs("LOST", z, 0, 0, 2);
    }

    private void delivered() {
        ProtectedLine x = ready();
        for (int n = 1; n <= 6; n++) {
            x.send(n, 0x0f1e2d3c4b5aL);
        }
        x.tick(1);
        counts("18: under way", x, 0, 0);
        x.tick(1);
        counts("18: the first one is there", x, 1, 0);
        x.tick(6);
        counts("18: all but the last one", x, 5, 0);
        x.tick(1);
        counts("18: all", x, 6, 0);
        x.tick(20);
        counts("18: no more", x, 6, 0);
        ProtectedLine y = SendingTest.ready(3, 0, 0, 0);
        y.send(1, 7);
        y.tick(4);
        counts("18: on a longer line", y, 0, 0);
        y.tick(1);
        counts("18: on a longer line", y, 1, 0);
    }

    /** B has seen nothing of the frame that went before (255, and its check 0), so one frame is spoilt. */
    private void scrambling() {
        ProtectedLine x = new ProtectedLine(0, 0, 0, 0);
        x.send(1, 0xff);
        x.tick(12);
        x.send(2, 0x1234);
        x.send(2, 0x1234);
        x.tick(5);
        counts("18: one was scrambled with what B never saw", x, 1, 1);
        due.is("20: the other one", x.got(0, 0), 0x34);
        due.is("20: the other one", x.got(0, 1), 0x12);
    }

    private void checks() {
        for (int bit = 0; bit < 8; bit++) {
            ProtectedLine x = ready();
            x.send(1, 0xab);
            x.send(1, 0xcd);
            x.tick(1);
            damaged(x, 9, 1 << bit);
            x.tick(3);
            counts("19: a wrong byte " + bit, x, 1, 1);
            due.is("20: the second one", x.got(0, 0), 0xcd);
            ProtectedLine y = ready();
            y.send(1, 0xab);
            y.send(1, 0xcd);
            y.tick(1);
            damaged(y, 10, 1 << bit);
            y.tick(3);
            counts("19: a wrong check " + bit + " spoils the next frame's first byte", y, 0, 2);
            due.is("20: none such", y.got(0, -1), -1);
        }
    }

    /** Makes a header for L of the idle at 56 and 57, which comes in tick 13. */
    private static ProtectedLine withLength(int l) {
        ProtectedLine x = ready();
        x.damage(0, 8, l);
        x.damage(0, 9, Model.h(l));
        x.tick(1);
        return x;
    }

    private void otherLengths() {
        ProtectedLine one = withLength(1);
        counts("19: one byte", one, 0, 1);
        due.is("17: the first byte of a header", one.sync(), 2);
        one.tick(1);
        due.is("17: 59 and 60 are 171 and 182, 62 and 63 a header", one.sync(), 1);
        ProtectedLine two = withLength(2);
        counts("19: two bytes without their check", two, 0, 1);
        due.is("17: in step behind them", two.sync(), 2);
        two.tick(1);
        due.is("17: in step behind them", two.sync(), 2);
        for (int l : new int[] {8, 20, 200, 254}) {
            ProtectedLine x = withLength(l);
            // The last of its bytes is 57 + l, in frame (57 + l) / 5 + 1, which comes a tick later.
            int tick = (57 + l) / 5 + 2;
            for (int t = 13; t < tick - 1; t++) {
                x.tick(1);
            }
            counts("19: " + l + " bytes, not yet", x, 0, 0);
            due.is("17: " + l + " bytes", x.sync(), 2);
            x.tick(1);
            counts("19: " + l + " bytes", x, 0, 1);
            due.is("17: behind " + l + " bytes", x.sync(), 2);
            x.tick(2);
            // Its last byte was 171, but A has scrambled nothing yet.
            x.send(1, 1);
            x.send(1, 2);
            x.tick(5);
            counts("19: behind " + l + " bytes the scrambling is off once", x, 1, 2);
            due.is("20: behind " + l + " bytes", x.got(0, 0), 2);
        }
        ProtectedLine eight = withLength(8);
        eight.tick(2);
        counts("19: eight bytes are never a client frame", eight, 0, 1);
        ProtectedLine zero = withLength(0);
        counts("19: an idle", zero, 0, 0);
    }

    /** One byte that is the check of none, and seven with their check. */
    private void otherLengthsWithCheck() {
        ProtectedLine one = ready();
        one.damage(0, 8, 1);
        one.damage(0, 9, Model.h(1));
        damaged(one, 10, 182 ^ 255);
        counts("19: a check alone", one, 0, 1);

        // 58 .. 65 with the scrambling undone, and 65 made the check.
        ProtectedLine eight = withLength(8);
        int check = Model.checkOf(new int[] {182, 29, 29, 29, 29, 29, 29}, 7);
        eight.tick(1);
        damaged(eight, 7, 29 ^ check);
        counts("19: seven bytes and their check", eight, 0, 1);

        // The same for six bytes, which are a client frame.
        ProtectedLine seven = withLength(7);
        damaged(seven, 11, 29 ^ Model.checkOf(new int[] {182, 29, 29, 29, 29, 29}, 6));
        counts("18: six bytes and their check", seven, 1, 0);
        due.is("20: six bytes", seven.got(0, -1), 6);
        due.is("20: the first byte", seven.got(0, 0), 182);
        due.is("20: the sixth byte", seven.got(0, 5), 29);
    }

    private void brokenOff() {
        ProtectedLine x = ready();
        x.send(6, 0x060504030201L);
        x.send(2, 0x0807);
        x.tick(1);
        x.tick(1);
        due.is("17: in the frame", x.sync(), 2);
        damaged(x, 4, TO_GAP);
        due.is("17: broken off", x.sync(), 0);
        x.tick(6);
        counts("19: broken off is neither", x, 0, 0);
        x.send(1, 9);
        x.tick(4);
        // The last scrambled byte that B read is one of the frame that was broken off.
        counts("19: the scrambling is off once", x, 0, 1);
        x.send(1, 9);
        x.tick(4);
        counts("18: and on again", x, 1, 1);
    }

    private void passedOver() {
        ProtectedLine x = headerFirst();
        x.tick(8);
        counts("18: passed over", x, 0, 0);
        x.send(3, 0x030201);
        x.tick(4);
        counts("18: what is passed over in PRESYNC is known to the scrambling", x, 1, 0);
    }

    private void got() {
        ProtectedLine x = ready();
        int[] wrong = {-1, 8, 9, Integer.MIN_VALUE, Integer.MAX_VALUE};
        for (int i = 0; i < 11; i++) {
            due.is("20: none such", x.got(Math.min(i, 7), -1), i < 8 ? -1 : x.got(7, -1));
            int n = 1 + i % 6;
            x.send(n, 0x0101_0101_0101L * (i + 1));
            x.tick(4);
            due.is("18: so many", x.delivered(), i + 1);
            for (int k = 0; k < 8; k++) {
                int size = 1 + (i - k + 6) % 6;
                boolean there = k <= i;
                due.is("20: got(" + k + ", -1)", x.got(k, -1), there ? size : -1);
                for (int j = 0; j < 6; j++) {
                    due.is("20: got(" + k + ", " + j + ")", x.got(k, j), there && j < size ? i - k + 1 : -1);
                }
                due.is("20: got(" + k + ", -2)", x.got(k, -2), -1);
                due.is("20: got(" + k + ", 6)", x.got(k, 6), -1);
                due.is("20: got(" + k + ", most)", x.got(k, Integer.MAX_VALUE), -1);
                due.is("20: got(" + k + ", least)", x.got(k, Integer.MIN_VALUE), -1);
            }
            for (int k : wrong) {
                due.is("20: no such k", x.got(k, -1), -1);
                due.is("20: no such k", x.got(k, 0), -1);
            }
        }
        damaged(x, 4, TO_GAP);
        due.is("20: what was delivered stays", x.got(0, 0), 11);
    }
}
