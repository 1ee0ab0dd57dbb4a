/**
 * The document's terms from the lines to the line frames: one test for each sentence that names a
 * boundary case. Each test begins with the words that it is about.
 */
public final class SentEdgesTest {
    private static final int[] ARGUMENTS = {Integer.MIN_VALUE, -8, -7, -6, -5, -4, -3, -2, -1, 0, 1, 2, 3, 4, 5, 6, 7,
        8, 9, 15, 16, Integer.MAX_VALUE - 1, Integer.MAX_VALUE};

    private final Due due = new Due();

    public static void main(String[] args) {
        SentEdgesTest test = new SentEdgesTest();
        test.delayIsOfTheLowestTwoBits();
        test.linesAreNotCutAtFirst();
        test.backLineHasTheDelayOfLine1();
        test.backLineIsCutWithLine1();
        test.holdIsOfTheLowestThreeBits();
        test.waitIsOfTheLowestThreeBits();
        test.clientFramesHaveOneToSixBytes();
        test.atMostEightWait();
        test.firstSentIsFirst();
        test.waitsNoMoreWithItsFirstByte();
        test.idleWhenNoneWaits();
        test.anIdleIsNotBrokenOff();
        test.lengthIsOneMore();
        test.scramblingGoesOnFromAnEarlierFrame();
        test.scramblingIsZeroBeforeTheFirst();
        test.headersAndIdlesAreNotScrambled();
        test.hashFallsBackFrom128();
        test.checkBeginsWith255();
        test.parityIsZeroInTheFirst();
        test.parityIsOfAllSixBytes();
        test.firstPlaces();
        test.placeTwoIsZeroAtFirst();
        test.placeTwoIsOfTheSameLine();
        test.placeThreeOfLine0IsZero();
        test.pointerIsZeroAtFirst();
        test.firstFrameMayBeJustified();
        test.threeFramesBeforeAreNotJustified();
        test.upJustification();
        test.downJustification();
        test.pointerIsZeroAfterFive();
        test.pointerIsFiveAfterZero();
        test.debtOfZeroJustifiesNothing();
        test.lineOneWithoutTheBridge();
        test.lineOneWithTheBridge();
        test.rowIsTheSameInEachFrame();
        test.due.end("SentEdgesTest");
    }

    private static ProtectedLine line() {
        return new ProtectedLine(0, 0, 0, 0);
    }

    /** The next bytes of the stream, five from each frame; the pointer must be 0. */
    private static int[] stream(ProtectedLine x, int frames) {
        int[] bytes = new int[5 * frames];
        for (int i = 0; i < bytes.length; i++) {
            if (i % 5 == 0) {
                x.tick(1);
            }
            bytes[i] = Bench.plain(x, 0, 7 + i % 5);
        }
        return bytes;
    }

    private void rowIs(String what, int[] got, int... want) {
        for (int i = 0; i < want.length; i++) {
            due.is(what + ", byte " + i, got[i], want[i]);
        }
    }

    private void delayIsOfTheLowestTwoBits() {
        due.of("1 + the lowest two bits of the constructor's first argument for line 0, of its second for line 1");
        for (int working : ARGUMENTS) {
            for (int protection : ARGUMENTS) {
                ProtectedLine x = new ProtectedLine(working, protection, 0, 0);
                for (int tick = 1; tick <= 5; tick++) {
                    x.tick(1);
                    String when = "(" + working + ", " + protection + "), tick " + tick;
                    due.is("alignment(0) " + when, x.alignment(0), Math.min(2, Math.max(0, tick - 1 - (working & 3))));
                    due.is("alignment(1) " + when, x.alignment(1), Math.min(2, Math.max(0, tick - 1 - (protection & 3))));
                }
            }
        }
    }

    private void linesAreNotCutAtFirst() {
        due.of("A line is CUT or not, at first not");
        for (int line = 0; line < 2; line++) {
            due.is("mending line " + line, line().cut(line, false), false);
            due.is("cutting line " + line, line().cut(line, true), true);
        }
    }

    private void backLineHasTheDelayOfLine1() {
        due.of("THE BACK LINE goes from B to A; it has line 1's delay");
        for (int working = 0; working < 4; working++) {
            for (int protection = 0; protection < 4; protection++) {
                ProtectedLine x = new ProtectedLine(working, protection, 0, 0);
                x.tick(20);
                x.command(2);
                // B asks in the first of these ticks; A must hear that three times.
                x.tick(protection + 3);
                due.is("bridged() before, delays " + working + ", " + protection, x.bridged(), false);
                x.tick(1);
                due.is("bridged() then, delays " + working + ", " + protection, x.bridged(), true);
            }
        }
    }

    private void backLineIsCutWithLine1() {
        due.of("and is cut when that is");
        Bench working = Bench.ready();
        working.x.command(2);
        working.x.cut(0, true);
        working.tick(4);
        due.is("bridged() with line 0 cut", working.x.bridged(), true);
        Bench protection = Bench.ready();
        protection.x.command(2);
        protection.tick(3);
        protection.x.cut(1, true);
        protection.tick(1);
        due.is("bridged() with line 1 cut in the tick", protection.x.bridged(), false);
        protection.x.cut(1, false);
        protection.tick(2);
        due.is("bridged() with two K behind that", protection.x.bridged(), false);
        protection.tick(1);
        due.is("bridged() with three K behind that", protection.x.bridged(), true);
    }

    private void holdIsOfTheLowestThreeBits() {
        due.of("HOLD is the lowest three bits of the constructor's third argument");
        for (int hold : ARGUMENTS) {
            ProtectedLine x = new ProtectedLine(0, 0, hold, 5);
            x.tick(12);
            x.cut(0, true);
            x.tick(2);
            for (int failed = 1; failed <= 9; failed++) {
                x.tick(1);
                due.is("request() with HOLD of " + hold + ", failed " + failed, x.request(), failed > (hold & 7) ? 3 : 0);
            }
        }
    }

    private void waitIsOfTheLowestThreeBits() {
        due.of("WAIT those of the fourth");
        for (int wait : ARGUMENTS) {
            ProtectedLine x = new ProtectedLine(0, 0, 3, wait);
            x.tick(12);
            x.cut(0, true);
            x.tick(10);
            x.cut(0, false);
            x.tick(1);
            due.is("request() when TRIED", x.request(), 3);
            for (int in = 1; in <= 9; in++) {
                x.tick(1);
                due.is("request() with WAIT of " + wait + ", tick " + in, x.request(), in <= (wait & 7) ? 1 : 0);
            }
        }
    }

    private void clientFramesHaveOneToSixBytes() {
        due.of("CLIENT FRAMES have 1 to 6 bytes");
        for (int n = -2; n <= 9; n++) {
            ProtectedLine x = line();
            due.is("send(" + n + ")", x.send(n, 1), n >= 1 && n <= 6);
            due.is("waiting() behind send(" + n + ")", x.waiting(), n >= 1 && n <= 6 ? 1 : 0);
        }
    }

    private void atMostEightWait() {
        due.of("at most 8 wait at A");
        ProtectedLine x = line();
        for (int i = 1; i <= 20; i++) {
            due.is("send, the " + i + "th", x.send(1, i), i <= 8);
            due.is("waiting()", x.waiting(), Math.min(i, 8));
        }
        // 17 frames of four bytes: their places are used again and again, and none is lost.
        x.tick(1);
        for (int i = 9; i <= 17; i++) {
            for (int tick = 0; tick < 3 && x.waiting() == 8; tick++) {
                x.tick(1);
            }
            due.is("send, the " + i + "th", x.send(1, i), true);
        }
        x.tick(20);
        due.is("waiting() at last", x.waiting(), 0);
    }

    private void firstSentIsFirst() {
        due.of("the next waiting client frame (the first sent first");
        ProtectedLine x = line();
        Bytes want = new Bytes();
        for (int i = 0; i < 8; i++) {
            x.send(2, 0x0100 + 10 * i);
            want.frame(10 * i, 1);
        }
        rowIs("the stream", stream(x, 8), want.all());
    }

    private void waitsNoMoreWithItsFirstByte() {
        due.of("it waits no more when its first byte is taken");
        // A frame of n bytes is n + 3 in the stream; a tick takes five.
        int[][] left = {{0, 0}, {1, 0}, {1, 0}, {1, 0}, {1, 0}, {1, 0}};
        for (int n = 1; n <= 6; n++) {
            ProtectedLine x = line();
            x.send(n, 1);
            x.send(1, 2);
            due.is("waiting() before", x.waiting(), 2);
            x.tick(1);
            due.is("waiting() with " + n + " bytes first, a tick", x.waiting(), left[n - 1][0]);
            x.tick(1);
            due.is("waiting() with " + n + " bytes first, two ticks", x.waiting(), left[n - 1][1]);
        }
        ProtectedLine seven = line();
        seven.drift(-1);
        seven.send(3, 1);
        seven.send(1, 2);
        // With two first bytes of containers among seven there are five of the stream.
        seven.tick(1);
        due.is("waiting() with five bytes of the first frame taken", seven.waiting(), 1);
        ProtectedLine two = line();
        two.send(2, 1);
        two.send(1, 2);
        two.tick(1);
        due.is("waiting(), its first byte is the next", two.waiting(), 1);
    }

    private void idleWhenNoneWaits() {
        due.of("or, when none waits, an IDLE");
        ProtectedLine x = line();
        rowIs("idles", stream(x, 2), 182, 171, 182, 171, 182, 171, 182, 171, 182, 171);
        x.send(1, 0);
        Bytes want = new Bytes().frame(0).idle().idle().idle();
        rowIs("a frame and idles", stream(x, 2), want.all());
    }

    private void anIdleIsNotBrokenOff() {
        due.of("THE STREAM has, one after the other");
        ProtectedLine x = line();
        rowIs("idles", stream(x, 1), 182, 171, 182, 171, 182);
        x.send(2, 0x0403);
        due.is("waiting() while the idle lasts", x.waiting(), 1);
        Bytes want = new Bytes().raw(171).frame(3, 4).idle().idle();
        rowIs("the rest of the idle, then the frame", stream(x, 2), want.all());
        // A frame that is sent while another one is under way begins right behind it.
        ProtectedLine y = line();
        y.send(6, 0x060504030201L);
        Bytes both = new Bytes().frame(1, 2, 3, 4, 5, 6).frame(7).idle();
        int[] head = stream(y, 1);
        y.send(1, 7);
        int[] tail = stream(y, 2);
        for (int i = 0; i < 15; i++) {
            due.is("both frames, byte " + i, i < 5 ? head[i] : tail[i - 5], both.all()[i]);
        }
    }

    private void lengthIsOneMore() {
        due.of("an idle is nothing more, its L is 0; for n bytes L is n + 1, and the n bytes and the CHECK of them follow");
        int[] hashes = {0, 0, 14, 9, 28, 27, 18, 21};
        for (int n = 1; n <= 6; n++) {
            ProtectedLine x = line();
            x.send(n, 0x5544_3322_1100L);
            int[] bytes = stream(x, 3);
            due.is("the first byte for " + n, bytes[0] ^ 182, n + 1);
            due.is("the second byte for " + n, bytes[1] ^ 171, hashes[n + 1]);
            due.is("the last but one for " + n, bytes[n + 1] ^ (n == 1 ? 0 : bytes[n]), 17 * (n - 1));
            due.is("an idle behind it", bytes[n + 3] ^ 182, 0);
            due.is("an idle behind it", bytes[n + 4] ^ 171, 0);
        }
    }

    private void scramblingGoesOnFromAnEarlierFrame() {
        due.of("the one that was scrambled and sent before it (also in an earlier frame");
        ProtectedLine x = line();
        x.send(1, 0x21);
        x.send(1, 0x43);
        int[] bytes = stream(x, 2);
        due.is("the first byte of the second frame", bytes[6], bytes[3] ^ 0x43);
        ProtectedLine later = line();
        later.send(1, 0x21);
        // Four bytes, and 18 idles behind them.
        int[] first = stream(later, 8);
        later.send(6, 0x43);
        int[] second = stream(later, 1);
        due.is("the header of the later frame", second[0], 7 ^ 182);
        due.is("the first byte of the later frame", second[2], first[3] ^ 0x43);
    }

    private void scramblingIsZeroBeforeTheFirst() {
        due.of("0 before the first)");
        for (int b = 0; b < 256; b += 51) {
            ProtectedLine x = line();
            x.send(1, b);
            due.is("the first byte", stream(x, 1)[2], b);
            ProtectedLine y = line();
            y.tick(2);
            y.send(1, b);
            due.is("the first byte, behind idles", stream(y, 1)[2], b);
        }
    }

    private void headersAndIdlesAreNotScrambled() {
        due.of("each of these n + 1 SCRAMBLED");
        ProtectedLine x = line();
        x.send(2, 0x7f91);
        // Five bytes, and five idles behind them.
        x.tick(3);
        x.send(2, 0x7f91);
        int[] bytes = stream(x, 1);
        rowIs("the header behind a frame", bytes, 182 ^ 3, 171 ^ 9);
        due.is("idles", stream(x, 1)[0], 182);
    }

    private void hashFallsBackFrom128() {
        due.of("x becomes 2 * x, and, when it was 128 or more, that ^ 7, of which the lowest 8 bits are kept");
        int[] xs = {0, 1, 2, 16, 64, 127, 128, 129, 254, 255};
        int[] hashes = {0, 7, 14, 112, 199, 122, 137, 142, 244, 243};
        for (int i = 0; i < xs.length; i++) {
            ProtectedLine x = line();
            x.send(1, 255 ^ xs[i]);
            int[] bytes = stream(x, 1);
            due.is("H(" + xs[i] + ")", bytes[3] ^ bytes[2], hashes[i]);
        }
        for (int b = 0; b < 256; b++) {
            ProtectedLine x = line();
            x.send(1, 255 ^ b);
            int[] bytes = stream(x, 1);
            due.is("H(" + b + ")", bytes[3] ^ bytes[2], Model.h(b));
        }
    }

    private void checkBeginsWith255() {
        due.of("The CHECK: c is 255 at first; for each byte c becomes H(c ^ the byte)");
        for (int n = 1; n <= 6; n++) {
            ProtectedLine zeros = line();
            zeros.send(n, 0);
            int check = 255;
            for (int i = 0; i < n; i++) {
                check = Model.h(check);
            }
            due.is("the check of " + n + " zeros", stream(zeros, 2)[n + 2], check);
            ProtectedLine x = line();
            x.send(n, 0x0605_0403_0201L);
            int[] bytes = stream(x, 2);
            int other = 255;
            for (int i = 1; i <= n; i++) {
                other = Model.h(other ^ i);
            }
            due.is("the check of 1 .. " + n, bytes[n + 2] ^ bytes[n + 1], other);
        }
        ProtectedLine ones = line();
        ones.send(1, 255);
        due.is("the check of 255 is 0", stream(ones, 1)[3], 255);
    }

    private void parityIsZeroInTheFirst() {
        due.of("the PARITY, which is all six bytes of the container before joined by ^ (0 in the first one)");
        ProtectedLine idle = line();
        idle.tick(1);
        due.is("the first parity, idles", Bench.plain(idle, 0, 6), 0);
        ProtectedLine busy = line();
        busy.send(6, -1);
        busy.tick(1);
        due.is("the first parity, a frame", Bench.plain(busy, 0, 6), 0);
    }

    private void parityIsOfAllSixBytes() {
        due.of("CONTAINERS follow one after the other, each of six bytes: the PARITY .. and the next five bytes of the stream");
        ProtectedLine x = line();
        for (int i = 0; i < 6; i++) {
            x.send(6, 0x0605_0403_0201L * (7 * i + 1));
        }
        int want = 0;
        for (int tick = 1; tick <= 14; tick++) {
            x.tick(1);
            due.is("parity " + tick, Bench.plain(x, 0, 6), want);
            want = 0;
            for (int place = 6; place < 12; place++) {
                want ^= Bench.plain(x, 0, place);
            }
        }
    }

    private void firstPlaces() {
        due.of("0 has 246, 1 has 40; .. 5 is 0");
        ProtectedLine x = line();
        for (int tick = 1; tick <= 30; tick++) {
            if (tick == 10) {
                x.command(1);
            }
            x.tick(1);
            for (int line = 0; line < 2; line++) {
                due.is("sent(" + line + ", 0)", x.sent(line, 0), 246);
                due.is("sent(" + line + ", 1)", x.sent(line, 1), 40);
            }
            due.is("place 5", Bench.plain(x, 0, 5), 0);
        }
    }

    private void placeTwoIsZeroAtFirst() {
        due.of("2 all twelve bytes (as sent) of the frame sent on this line in the tick before, joined by ^ (0 at first)");
        ProtectedLine x = line();
        x.send(6, 0x0605_0403_0201L);
        x.tick(1);
        due.is("place 2 of line 0", Bench.plain(x, 0, 2), 0);
        due.is("place 2 of line 1", Bench.plain(x, 1, 2), 0);
    }

    private void placeTwoIsOfTheSameLine() {
        due.of("2 all twelve bytes (as sent) of the frame sent on this line in the tick before");
        Bench bench = Bench.fresh(0, 0);
        bench.tick(1);
        for (int tick = 2; tick <= 40; tick++) {
            int working = bench.joined(0);
            int protection = bench.joined(1);
            if (tick == 8) {
                bench.x.command(2);
            } else if (tick == 20) {
                bench.x.cut(0, true);
                bench.x.drift(-3);
            } else if (tick % 5 == 0) {
                bench.x.send(5, 0x1234_5678_9abcL * tick);
                bench.x.damage(0, 7, 255);
                bench.x.damage(1, 7, 255);
            }
            bench.tick(1);
            due.is("place 2 of line 0, tick " + tick, bench.plain(0, 2), working);
            due.is("place 2 of line 1, tick " + tick, bench.plain(1, 2), protection);
        }
    }

    private void placeThreeOfLine0IsZero() {
        due.of("3 the K that A sends (on line 0: 0)");
        Bench bench = Bench.ready();
        for (int c = 0; c < 4; c++) {
            bench.x.command(c);
            for (int i = 0; i < 8; i++) {
                bench.tick(1);
                due.is("place 3 of line 0", bench.plain(0, 3), 0);
            }
            due.is("place 3 of line 1, command " + c, bench.plain(1, 3), new int[] {0, 33, 65, 80}[c]);
        }
    }

    private void pointerIsZeroAtFirst() {
        due.of("The POINTER p, 0 at first .. The pointer byte is 64 + 9 * p");
        ProtectedLine x = line();
        for (int tick = 1; tick <= 10; tick++) {
            x.tick(1);
            due.is("place 4, tick " + tick, Bench.plain(x, 0, 4), 64);
        }
        for (int p = 0; p < 6; p++) {
            ProtectedLine y = line();
            y.drift(p);
            y.tick(24);
            due.is("place 4, p " + p, Bench.plain(y, 0, 4), 64 + 9 * p);
            y.tick(1);
            // In this frame the parity is p bytes behind place 6.
            int all = 0;
            int[] before = new int[6];
            for (int place = 6 + p; place < 12; place++) {
                before[place - 6] = Bench.plain(y, 0, place);
            }
            y.tick(1);
            for (int place = 6; place < 6 + p; place++) {
                before[place - 6] = Bench.plain(y, 0, place);
            }
            for (int b : before) {
                all ^= b;
            }
            due.is("the parity, p " + p, Bench.plain(y, 0, 6 + p), all);
        }
    }

    private static boolean justified(ProtectedLine x, int p) {
        return Bench.plain(x, 0, 4) != 64 + 9 * p;
    }

    private void firstFrameMayBeJustified() {
        due.of("A has a DEBT, 0 at first; when it is not 0 and none of the three frames before was justified, this frame is");
        for (int n = -8; n <= 8; n++) {
            ProtectedLine x = line();
            x.drift(n);
            x.tick(1);
            due.is("the first frame, debt " + n, justified(x, 0), n != 0);
        }
    }

    private void threeFramesBeforeAreNotJustified() {
        due.of("none of the three frames before was justified");
        for (int n : new int[] {8, -8}) {
            ProtectedLine x = line();
            x.drift(n);
            int p = 0;
            for (int tick = 1; tick <= 40; tick++) {
                x.tick(1);
                boolean due8 = tick % 4 == 1 && tick < 32;
                due.is("tick " + tick + ", debt " + n, justified(x, p), due8);
                if (due8) {
                    p = Math.floorMod(p + n / 8, 6);
                }
            }
        }
        // The debt may come late, or the other way: only frames that were justified count.
        for (int late = 1; late <= 6; late++) {
            for (int n : new int[] {1, -1}) {
                ProtectedLine x = line();
                x.drift(1);
                x.tick(late);
                x.drift(n);
                for (int tick = late + 1; tick <= 8; tick++) {
                    x.tick(1);
                    boolean now = tick == Math.max(5, late + 1);
                    boolean over = tick > Math.max(5, late + 1);
                    due.is("late " + late + ", tick " + tick, justified(x, over ? 1 + n : 1), now);
                }
            }
        }
    }

    /** A byte of the containers, counted from 0, with idles alone. */
    private static int container(int index) {
        int parity = new int[] {0, 182, 29, 171}[index / 6 % 4];
        if (index % 6 == 0) {
            return parity;
        }
        int at = index / 6 * 5 + index % 6 - 1;
        return at % 2 == 0 ? 182 : 171;
    }

    private void upJustification() {
        due.of("When it is more than 0: it falls by 1, 6 is 0, the next five bytes are in 7 .. 11, the pointer byte is 64 + (9 * p ^ 21)");
        ProtectedLine x = line();
        // The parity of container 2, which would be in place 6, is not 0.
        x.tick(2);
        x.drift(1);
        x.tick(1);
        due.is("place 4", Bench.plain(x, 0, 4), 64 + 21);
        due.is("place 5", Bench.plain(x, 0, 5), 0);
        due.is("place 6", Bench.plain(x, 0, 6), 0);
        for (int place = 7; place < 12; place++) {
            due.is("place " + place, Bench.plain(x, 0, place), container(12 + place - 7));
        }
        due.is("the debt is 0 again", x.drift(9), false);
        due.is("the debt is 0 again", x.drift(8), true);
        x.drift(-8);
        x.tick(1);
        due.is("place 4 of the next", Bench.plain(x, 0, 4), 73);
        for (int place = 6; place < 12; place++) {
            due.is("place " + place + " of the next", Bench.plain(x, 0, place), container(17 + place - 6));
        }
    }

    private void downJustification() {
        due.of("When it is less: it grows by 1, the next seven bytes are in 5 .. 11, the pointer byte is 64 + (9 * p ^ 42)");
        ProtectedLine x = line();
        x.tick(1);
        x.drift(-1);
        x.tick(1);
        due.is("place 4", Bench.plain(x, 0, 4), 64 + 42);
        for (int place = 5; place < 12; place++) {
            due.is("place " + place, Bench.plain(x, 0, place), container(6 + place - 5));
        }
        due.is("the debt is 0 again", x.drift(-9), false);
        due.is("the debt is 0 again", x.drift(-8), true);
        x.drift(8);
        x.tick(1);
        due.is("place 4 of the next", Bench.plain(x, 0, 4), 109);
        due.is("place 5 of the next", Bench.plain(x, 0, 5), 0);
        for (int place = 6; place < 12; place++) {
            due.is("place " + place + " of the next", Bench.plain(x, 0, place), container(13 + place - 6));
        }
    }

    private void pointerIsZeroAfterFive() {
        due.of("from the next frame on p is one more (0 after 5)");
        ProtectedLine x = line();
        x.drift(8);
        for (int i = 0; i < 8; i++) {
            x.tick(1);
            due.is("the justified frame, p " + i % 6, Bench.plain(x, 0, 4), 64 + (9 * (i % 6) ^ 21));
            for (int rest = 0; rest < 3; rest++) {
                x.tick(1);
                due.is("the frames behind it", Bench.plain(x, 0, 4), 64 + 9 * ((i + 1) % 6));
            }
        }
    }

    private void pointerIsFiveAfterZero() {
        due.of("from the next frame on p is one less (5 after 0)");
        ProtectedLine x = line();
        x.drift(-8);
        for (int i = 0; i < 8; i++) {
            x.tick(1);
            int p = Math.floorMod(-i, 6);
            due.is("the justified frame, p " + p, Bench.plain(x, 0, 4), 64 + (9 * p ^ 42));
            for (int rest = 0; rest < 3; rest++) {
                x.tick(1);
                due.is("the frames behind it", Bench.plain(x, 0, 4), 64 + 9 * Math.floorMod(-i - 1, 6));
            }
        }
    }

    private void debtOfZeroJustifiesNothing() {
        due.of("when it is not 0");
        ProtectedLine x = line();
        x.drift(5);
        x.drift(-5);
        for (int tick = 1; tick <= 10; tick++) {
            x.tick(1);
            due.is("tick " + tick, justified(x, 0), false);
        }
    }

    private void lineOneWithoutTheBridge() {
        due.of("when not, places 4 .. 11 are 255");
        Bench bench = Bench.fresh(0, 0);
        bench.x.drift(-2);
        for (int tick = 1; tick <= 12; tick++) {
            bench.tick(1);
            for (int place = 4; place < 12; place++) {
                due.is("place " + place, bench.plain(1, place), 255);
            }
        }
        // The containers go on all the while, and are in their place when the bridge is on.
        bench.x.command(2);
        bench.tick(12);
        due.is("pointer() on line 1", bench.x.pointer(), 4);
        due.is("selected()", bench.x.selected(), 1);
        due.is("pathErrors()", bench.x.pathErrors(), 0);
    }

    private void lineOneWithTheBridge() {
        due.of("On line 1 the frame is otherwise the same (the same bytes of the containers) when A has the BRIDGE on");
        Bench bench = Bench.ready();
        bench.x.command(2);
        for (int tick = 1; tick <= 40; tick++) {
            if (tick == 10 || tick == 25) {
                bench.x.drift(tick == 10 ? 3 : -3);
                bench.x.send(6, 0x0605_0403_0201L);
            }
            bench.tick(1);
            due.is("bridged(), tick " + tick, bench.x.bridged(), tick >= 4);
            for (int place = 4; place < 12; place++) {
                int want = tick >= 4 ? bench.plain(0, place) : 255;
                due.is("place " + place + ", tick " + tick, bench.plain(1, place), want);
            }
        }
    }

    private void rowIsTheSameInEachFrame() {
        due.of("places 2 .. 11 are each joined by ^ with the bytes of a row (its first one for place 2) that is the same in each frame");
        int[] row = Model.scramblingRow();
        int[] byHand = {254, 4, 24, 81, 228, 89, 212, 250, 28, 73};
        for (int i = 0; i < 10; i++) {
            due.is("byte " + i + " of the row", row[i], byHand[i]);
        }
        ProtectedLine x = line();
        int last = 0;
        for (int tick = 1; tick <= 20; tick++) {
            x.tick(1);
            due.is("place 2", x.sent(1, 2), last ^ row[0]);
            due.is("place 3", x.sent(1, 3), row[1]);
            last = 0;
            for (int place = 0; place < 12; place++) {
                last ^= x.sent(1, place);
                if (place >= 4) {
                    due.is("place " + place, x.sent(1, place), 255 ^ row[place - 2]);
                }
            }
        }
    }
}
