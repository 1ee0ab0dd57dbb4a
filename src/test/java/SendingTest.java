/** Promises 1 to 9: what the object is told, and what A sends. Numbers are worked out from the document. */
public final class SendingTest {
    private static final int[] ROW = {254, 4, 24, 81, 228, 89, 212, 250, 28, 73};
    private static final int MIN = Integer.MIN_VALUE;
    private static final int MAX = Integer.MAX_VALUE;

    private final Due due = new Due();

    public static void main(String[] args) {
        SendingTest test = new SendingTest();
        test.newObject();
        test.delays();
        test.holdAndWait();
        test.send();
        test.tick();
        test.cut();
        test.cutBackLine();
        test.damage();
        test.drift();
        test.driftDown();
        test.command();
        test.waiting();
        test.sent();
        test.sentStream();
        test.sentCheck();
        test.sentK();
        test.due.end("SendingTest");
    }

    /** Both delays 1, no HOLD, no WAIT, 12 ticks: all is found, and the stream is at the edge of an idle. */
    static ProtectedLine ready() {
        return ready(0, 0, 0, 0);
    }

    static ProtectedLine ready(int working, int protection, int hold, int wait) {
        ProtectedLine x = new ProtectedLine(working, protection, hold, wait);
        x.tick(12);
        return x;
    }

    private void newObject() {
        ProtectedLine x = new ProtectedLine(0, 0, 0, 0);
        due.is("1: waiting", x.waiting(), 0);
        for (int line = 0; line < 2; line++) {
            due.is("1: alignment", x.alignment(line), 0);
            due.is("1: errors", x.errors(line), 0);
            for (int place = 0; place < 12; place++) {
                due.is("1: sent", x.sent(line, place), -1);
            }
            due.is("1: a line is not cut", x.cut(line, false), false);
        }
        due.is("1: request", x.request(), 0);
        due.is("1: bridged", x.bridged(), false);
        due.is("1: selected", x.selected(), 0);
        due.is("1: pointer", x.pointer(), -1);
        due.is("1: pathErrors", x.pathErrors(), 0);
        due.is("1: sync", x.sync(), 0);
        due.is("1: delivered", x.delivered(), 0);
        due.is("1: dropped", x.dropped(), 0);
        due.is("1: got", x.got(0, -1), -1);
        due.is("1: debt is 0, upwards", x.drift(8), true);
        due.is("1: debt is 0, downwards", x.drift(-16), true);
    }

    private void delays() {
        int[] arguments = {0, 1, 2, 3, 4, 7, -1, -4, MIN, MAX};
        int[] delays = {1, 2, 3, 4, 1, 4, 4, 1, 1, 4};
        for (int i = 0; i < arguments.length; i++) {
            delay(new ProtectedLine(arguments[i], 0, 0, 0), 0, delays[i]);
            delay(new ProtectedLine(0, arguments[i], 0, 0), 1, delays[i]);
            backDelay(new ProtectedLine(0, arguments[i], 0, 0), delays[i]);
        }
    }

    private void delay(ProtectedLine x, int line, int delay) {
        x.tick(delay);
        due.is("1: nothing arrives before the delay", x.alignment(line), 0);
        x.tick(1);
        due.is("1: the first frame arrives", x.alignment(line), 1);
    }

    /** B asks in tick T, A accepts that in T + delay + 2. */
    private void backDelay(ProtectedLine x, int delay) {
        x.tick(30);
        x.command(1);
        x.tick(delay + 2);
        due.is("1: A has not heard B thrice", x.bridged(), false);
        x.tick(1);
        due.is("1: A has heard B thrice", x.bridged(), true);
    }

    private void holdAndWait() {
        for (int n = -9; n < 18; n++) {
            int low = n & 7;
            ProtectedLine x = ready(0, 0, n, n);
            x.cut(0, true);
            // OUT with the third tick, the first of those that count for HOLD.
            x.tick(2 + low);
            due.is("1: HOLD " + low + " is not over", x.request(), 0);
            x.tick(1);
            due.is("1: HOLD " + low + " is over", x.request(), 3);
            x.cut(0, false);
            x.tick(1);
            for (int i = 0; i < low; i++) {
                x.tick(1);
                due.is("1: WAIT " + low, x.request(), 1);
            }
            x.tick(1);
            due.is("1: WAIT " + low + " is over", x.request(), 0);
        }
    }

    private void send() {
        ProtectedLine x = ready();
        // The first frame that a reader sees may be spoilt by what it did not see before; there was none here.
        due.is("2: send 1", x.send(1, 0x7f), true);
        due.is("2: send 2", x.send(2, 0x0180), true);
        due.is("2: send 6", x.send(6, 0x8899_0605_0403_02ffL), true);
        due.is("2: send 6 of a negative number", x.send(6, -1L), true);
        for (int n : new int[] {0, -1, 7, 8, MIN, MAX}) {
            due.is("2: no " + n + " bytes", x.send(n, 5), false);
        }
        due.is("2: wrong ones do not wait", x.waiting(), 4);
        x.tick(10);
        due.is("2: all delivered", x.delivered(), 4);
        gotIs(x, 3, 0x7f);
        gotIs(x, 2, 0x80, 0x01);
        gotIs(x, 1, 0xff, 2, 3, 4, 5, 6);
        gotIs(x, 0, 255, 255, 255, 255, 255, 255);

        ProtectedLine y = ready();
        for (int i = 0; i < 8; i++) {
            due.is("2: eight may wait", y.send(6, i), true);
        }
        due.is("2: nine may not", y.send(1, 99), false);
        due.is("2: eight wait", y.waiting(), 8);
        y.tick(1);
        due.is("2: one more when one waits no more", y.send(6, 8), true);
        due.is("2: and no other", y.send(1, 99), false);
        y.tick(20);
        due.is("2: nine delivered", y.delivered(), 9);
        for (int k = 0; k < 8; k++) {
            due.is("2: the first sent comes first", y.got(k, 0), 8 - k);
        }
    }

    private void gotIs(ProtectedLine x, int k, int... bytes) {
        due.is("got(" + k + ", -1)", x.got(k, -1), bytes.length);
        for (int i = 0; i < bytes.length; i++) {
            due.is("got(" + k + ", " + i + ")", x.got(k, i), bytes[i]);
        }
        due.is("got behind the last byte", x.got(k, bytes.length), -1);
    }

    private void tick() {
        ProtectedLine x = new ProtectedLine(2, 1, 0, 0);
        due.is("3: 40 ticks", x.tick(40), true);
        ProtectedLine y = new ProtectedLine(2, 1, 0, 0);
        for (int i = 0; i < 40; i++) {
            due.is("3: a tick", y.tick(1), true);
        }
        same("3: 40 ticks at once", x, y);
        for (int n : new int[] {0, -1, 41, 42, MIN, MAX}) {
            due.is("3: no " + n + " ticks", x.tick(n), false);
        }
        same("3: wrong ones change nothing", x, y);
        x.damage(0, 4, 64);
        due.is("3: not a tick", x.tick(0), false);
        x.damage(0, 4, 64);
        x.tick(1);
        y.tick(1);
        same("3: no tick takes no damage away", x, y);
    }

    private void same(String what, ProtectedLine x, ProtectedLine y) {
        for (int line = 0; line < 2; line++) {
            for (int place = 0; place < 12; place++) {
                due.is(what + ", sent", x.sent(line, place), y.sent(line, place));
            }
            due.is(what + ", alignment", x.alignment(line), y.alignment(line));
            due.is(what + ", errors", x.errors(line), y.errors(line));
        }
        due.is(what + ", pointer", x.pointer(), y.pointer());
        due.is(what + ", sync", x.sync(), y.sync());
        due.is(what + ", request", x.request(), y.request());
    }

    private void cut() {
        ProtectedLine x = ready(3, 0, 0, 0);
        for (int line : new int[] {-1, 2, MIN, MAX}) {
            due.is("4: no such line", x.cut(line, true), false);
            due.is("4: no such line", x.cut(line, false), false);
        }
        due.is("4: not cut, mended", x.cut(0, false), false);
        due.is("4: cut", x.cut(0, true), true);
        due.is("4: cut again", x.cut(0, true), false);
        due.is("4: the other one is whole", x.cut(1, false), false);
        x.tick(1);
        due.is("4: a gap", x.sync(), 0);
        due.is("4: mended", x.cut(0, false), true);
        due.is("4: mended again", x.cut(0, false), false);
        // What was under way in the tick of the cut, but not arriving then, is there.
        x.tick(1);
        due.is("4: only what would have arrived is lost", x.sync(), 2);
        due.is("4: and the line was never OUT", x.alignment(0), 2);
        due.is("4: nothing was counted", x.errors(0), 0);
        due.is("4: the other line", x.alignment(1), 2);

        x.cut(1, true);
        x.tick(3);
        due.is("4: line 1 cut", x.alignment(1), 0);
        due.is("4: line 0 whole", x.alignment(0), 2);
    }

    /** A hears nothing while line 1 is cut, and must then hear three one behind the other. */
    private void cutBackLine() {
        ProtectedLine x = ready();
        x.command(2);
        x.tick(3);
        due.is("4: heard twice", x.bridged(), false);
        x.cut(1, true);
        x.tick(1);
        due.is("4: not heard", x.bridged(), false);
        x.cut(1, false);
        x.tick(2);
        due.is("4: heard twice anew", x.bridged(), false);
        x.tick(1);
        due.is("4: heard thrice", x.bridged(), true);
    }

    private void damage() {
        ProtectedLine x = ready();
        for (int line : new int[] {-1, 2, MIN, MAX}) {
            due.is("5: no such line", x.damage(line, 0, 1), false);
        }
        for (int place : new int[] {-1, 12, MIN, MAX}) {
            due.is("5: no such place", x.damage(0, place, 1), false);
        }
        for (int bits : new int[] {-1, 256, MIN, MAX}) {
            due.is("5: no such bits", x.damage(0, 5, bits), false);
        }
        x.tick(2);
        due.is("5: wrong ones do nothing", x.errors(0) + x.errors(1), 0);
        due.is("5: no bits", x.damage(0, 5, 0), true);
        due.is("5: 255", x.damage(0, 5, 255), true);
        due.is("5: 254 of them back", x.damage(0, 5, 254), true);
        x.tick(1);
        due.is("5: seen a tick later", x.errors(0), 0);
        x.tick(1);
        due.is("5: one bit is left", x.errors(0), 1);
        due.is("5: of line 0", x.errors(1), 0);
        x.tick(5);
        due.is("5: in one tick only", x.errors(0), 1);
        due.is("5: the last place of line 1", x.damage(1, 11, 7), true);
        x.tick(2);
        due.is("5: three bits of line 1", x.errors(1), 3);

        x.cut(0, true);
        x.damage(0, 0, 255);
        x.tick(1);
        x.cut(0, false);
        x.tick(4);
        due.is("5: gone when nothing arrived", x.errors(0), 1);
        due.is("5: gone, the line is IN", x.alignment(0), 2);

        ProtectedLine y = new ProtectedLine(3, 3, 0, 0);
        y.damage(0, 0, 1);
        y.tick(5);
        due.is("5: gone before the first frame arrives", y.alignment(0), 1);
    }

    private void drift() {
        ProtectedLine x = ready();
        for (int n : new int[] {9, -9, MIN, MAX}) {
            due.is("6: not by " + n, x.drift(n), false);
        }
        due.is("6: by 0", x.drift(0), true);
        x.tick(1);
        due.is("6: nothing changed", x.sent(0, 4) ^ ROW[2], 64);
        due.is("6: to 8", x.drift(8), true);
        for (int n : new int[] {1, MAX, -17, MIN}) {
            due.is("6: not by " + n, x.drift(n), false);
        }
        due.is("6: to -8", x.drift(-16), true);
        due.is("6: not to -9", x.drift(-1), false);
        due.is("6: not by most", x.drift(MIN), false);
        due.is("6: to 2", x.drift(10), true);
        // Tick 14 begins container 14, which has the parity 182 (idles alone: 0, 182, 29, 171, 0, ..).
        int[] pointers = {64 + 21, 73, 73, 73, 64 + (9 ^ 21), 82, 82, 82, 82};
        for (int i = 0; i < pointers.length; i++) {
            x.tick(1);
            due.is("6: pointer byte " + i, x.sent(0, 4) ^ ROW[2], pointers[i]);
            due.is("6: place 5 of " + i, x.sent(0, 5) ^ ROW[3], 0);
            boolean justified = i == 0 || i == 4;
            due.is("6: place 6 of " + i, (x.sent(0, 6) ^ ROW[4]) == 0, justified);
        }
        due.is("6: debt is 0 again", x.drift(8), true);
        due.is("6: and no more", x.drift(1), false);
        due.is("6: nothing lost", x.pathErrors() + x.errors(0), 0);
        due.is("6: still in step", x.sync(), 2);
    }

    private void driftDown() {
        ProtectedLine x = ready();
        x.tick(1);
        x.drift(-2);
        int[] pointers = {64 + 42, 109, 109, 109, 64 + (45 ^ 42), 100, 100};
        for (int i = 0; i < pointers.length; i++) {
            x.tick(1);
            due.is("6: pointer byte down " + i, x.sent(0, 4) ^ ROW[2], pointers[i]);
            due.is("6: place 5 down " + i, x.sent(0, 5) ^ ROW[3], i == 0 ? 182 : i == 4 ? 171 : 0);
        }
        x.drift(1);
        x.tick(1);
        due.is("6: not yet, the third frame behind", x.sent(0, 4) ^ ROW[2], 100);
        x.tick(1);
        due.is("6: up again", x.sent(0, 4) ^ ROW[2], 64 + (36 ^ 21));
        x.tick(1);
        due.is("6: up again, behind", x.sent(0, 4) ^ ROW[2], 109);
        due.is("6: the reader goes along", x.pointer(), 5);
        due.is("6: nothing lost down", x.pathErrors() + x.errors(0), 0);
    }

    private void command() {
        ProtectedLine x = ready();
        int[] requests = {0, 2, 4, 5};
        for (int c = 0; c < 4; c++) {
            due.is("7: command " + c, x.command(c), true);
            x.tick(1);
            due.is("7: request of command " + c, x.request(), requests[c]);
            for (int wrong : new int[] {-1, 4, MIN, MAX}) {
                due.is("7: no such command", x.command(wrong), false);
            }
            x.tick(1);
            due.is("7: still command " + c, x.request(), requests[c]);
        }
        due.is("7: back to none", x.command(0), true);
        x.tick(1);
        due.is("7: request of none", x.request(), 0);
    }

    private void waiting() {
        ProtectedLine x = ready();
        for (int i = 1; i <= 8; i++) {
            x.send(6, i);
            due.is("8: waiting", x.waiting(), i);
        }
        // Nine bytes of the stream each, five in a tick.
        for (int left : new int[] {7, 6, 6, 5, 5, 4, 4, 3, 3, 2, 1, 1, 0, 0}) {
            x.tick(1);
            due.is("8: waiting after a tick", x.waiting(), left);
        }
        x.tick(10);
        due.is("8: never below 0", x.waiting(), 0);
    }

    private void sentIs(ProtectedLine x, int line, int... frame) {
        for (int place = 0; place < frame.length; place++) {
            due.is("9: sent(" + line + ", " + place + ")", x.sent(line, place), frame[place]);
        }
    }

    private void sent() {
        ProtectedLine x = new ProtectedLine(3, 3, 0, 0);
        x.cut(0, true);
        x.tick(1);
        sentIs(x, 0, 246, 40, 254, 4, 88, 81, 228, 239, 127, 76, 183, 255);
        sentIs(x, 1, 246, 40, 254, 4, 231, 174, 27, 166, 43, 5, 227, 182);
        int joined0 = 246 ^ 40 ^ 254 ^ 4 ^ 88 ^ 81 ^ 228 ^ 239 ^ 127 ^ 76 ^ 183 ^ 255;
        int joined1 = 246 ^ 40 ^ 254 ^ 4 ^ 231 ^ 174 ^ 27 ^ 166 ^ 43 ^ 5 ^ 227 ^ 182;
        x.tick(1);
        sentIs(x, 0, 246, 40, 254 ^ joined0, 4, 88, 81, 182 ^ 228, 171 ^ 89, 182 ^ 212, 171 ^ 250, 182 ^ 28, 171 ^ 73);
        sentIs(x, 1, 246, 40, 254 ^ joined1, 4, 231, 174, 27, 166, 43, 5, 227, 182);
        for (int bad : new int[] {-1, 2, MIN, MAX}) {
            due.is("9: no such line", x.sent(bad, 0), -1);
        }
        for (int bad : new int[] {-1, 12, MIN, MAX}) {
            due.is("9: no such place", x.sent(0, bad), -1);
            due.is("9: no such place", x.sent(1, bad), -1);
        }
    }

    private void sentStream() {
        ProtectedLine x = new ProtectedLine(0, 0, 0, 0);
        x.send(3, 0x030201);
        x.send(1, 0x55);
        // H(4) is 28, H(2) is 14. The check of 1, 2, 3: H(255 ^ 1) is 244, H(244 ^ 2) 204, H(204 ^ 3) 99; of 85: 95.
        int[] stream = {4 ^ 182, 28 ^ 171, 1, 1 ^ 2, 1 ^ 2 ^ 3, 99, 2 ^ 182, 14 ^ 171, 99 ^ 85, 99 ^ 85 ^ 95,
            182, 171, 182, 171, 182};
        int parity = 0;
        for (int frame = 0; frame < 3; frame++) {
            x.tick(1);
            due.is("9: parity", x.sent(0, 6) ^ ROW[4], parity);
            for (int i = 0; i < 5; i++) {
                int b = stream[frame * 5 + i];
                due.is("9: stream byte " + (frame * 5 + i), x.sent(0, 7 + i) ^ ROW[5 + i], b);
                parity ^= b;
            }
        }
    }

    /** H(127), the check of 128, is 122, as 127 is below 128. */
    private void sentCheck() {
        ProtectedLine x = new ProtectedLine(0, 0, 0, 0);
        x.send(1, 128);
        x.tick(1);
        due.is("9: the byte", x.sent(0, 9) ^ ROW[7], 128);
        due.is("9: its check", x.sent(0, 10) ^ ROW[8], 128 ^ 122);
    }

    /** With delay 2 B asks for LOCKOUT in ticks 1 to 3, so A accepts 5 in tick 5 and gives it back. */
    private void sentK() {
        ProtectedLine x = new ProtectedLine(0, 1, 0, 0);
        x.tick(4);
        due.is("9: K before anything was accepted", x.sent(1, 3) ^ ROW[1], 0);
        x.tick(1);
        due.is("9: K is 5, no bridge", x.sent(1, 3) ^ ROW[1], 80);
        due.is("9: K on line 0", x.sent(0, 3) ^ ROW[1], 0);
        due.is("9: line 1 is empty", x.sent(1, 4) ^ ROW[2], 255);
        x.tick(3);
        due.is("9: K is 0", x.sent(1, 3) ^ ROW[1], 0);
        int[] requests = {32, 64};
        for (int c = 1; c <= 2; c++) {
            x.command(c);
            x.tick(5);
            due.is("9: K of command " + c, x.sent(1, 3) ^ ROW[1], requests[c - 1] + 1);
            due.is("9: K on line 0", x.sent(0, 3) ^ ROW[1], 0);
            for (int place = 4; place < 12; place++) {
                due.is("9: the bridge, place " + place, x.sent(1, place), x.sent(0, place));
            }
            x.command(0);
            x.tick(10);
        }
    }
}
