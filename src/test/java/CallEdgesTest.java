/**
 * The document's promises 1 to 20, call by call: one test for each sentence that names a boundary
 * case, a wrong input or a refused call. Each test begins with the words that it is about.
 */
public final class CallEdgesTest {
    private static final int MIN = Integer.MIN_VALUE;
    private static final int MAX = Integer.MAX_VALUE;
    private static final int[] NO_LINES = {MIN, -2, -1, 2, 3, 256, MAX};
    private static final int[] NO_PLACES = {MIN, -2, -1, 12, 13, 256, MAX};
    private static final int[] NO_BITS = {MIN, -256, -1, 256, 257, 511, MAX};

    private final Due due = new Due();

    public static void main(String[] args) {
        CallEdgesTest test = new CallEdgesTest();
        test.nothingWaitsAtFirst();
        test.nothingIsUnderWayAtFirst();
        test.objectsAreOfTheirOwn();
        test.bytesOfSend();
        test.higherBytesOfSend();
        test.sendWithAWrongNumber();
        test.sendWhenEightWait();
        test.sendAgainWhenOneWaitsNoMore();
        test.numbersOfTicks();
        test.refusedTicks();
        test.fortyTicks();
        test.cutChangesSomething();
        test.cutOfNoLine();
        test.lostInATickInWhichItIsCut();
        test.damageIsForTheNextTick();
        test.damageIsJoined();
        test.damageIsGone();
        test.damageOfNoBits();
        test.refusedDamage();
        test.everyDamage();
        test.debtOfEight();
        test.refusedDrift();
        test.driftByNothing();
        test.commands();
        test.refusedCommands();
        test.waitingFrames();
        test.sentBeforeTheFirstTick();
        test.sentOfNoPlace();
        test.sentIsOfTheLatestTick();
        test.alignmentOfNoLine();
        test.errorsOfNoLine();
        test.requestBeforeTheFirstTick();
        test.bridgedBeforeTheFirstTick();
        test.selectedBeforeTheFirstTick();
        test.pointerWhenLost();
        test.countsAreZeroAtFirst();
        test.asksChangeNothing();
        test.gotOfNoFrame();
        test.gotOfNoByte();
        test.gotOfTheEighth();
        test.fiveHundredAndTwelveCalls();
        test.due.end("CallEdgesTest");
    }

    private static ProtectedLine line() {
        return new ProtectedLine(0, 0, 0, 0);
    }

    private static final int STATES = 6;

    /** A line in one of some states: new, found, busy, drifting, failed, over on line 1. */
    private static ProtectedLine inState(int state) {
        ProtectedLine x = new ProtectedLine(state, state / 2, 1, 3);
        if (state > 0) {
            x.tick(20);
        }
        if (state == 2) {
            for (int i = 0; i < 8; i++) {
                x.send(1 + i % 6, 0x0102_0304_0506L * i);
            }
            x.damage(0, 8, 16);
        } else if (state == 3) {
            x.drift(-8);
            x.tick(3);
            x.drift(-1);
        } else if (state == 4) {
            x.cut(0, true);
            x.cut(1, true);
            x.tick(6);
            x.drift(8);
        } else if (state == 5) {
            x.command(2);
            x.tick(20);
            x.damage(1, 2, 1);
        }
        return x;
    }

    private void nothingWaitsAtFirst() {
        due.of("1: Nothing waits");
        due.is("waiting()", line().waiting(), 0);
        ProtectedLine x = line();
        for (int i = 0; i < 8; i++) {
            due.is("send", x.send(1, 1), true);
        }
    }

    private void nothingIsUnderWayAtFirst() {
        due.of("1: nothing is under way");
        ProtectedLine x = new ProtectedLine(3, 3, 0, 0);
        x.tick(4);
        due.is("alignment(0)", x.alignment(0), 0);
        due.is("alignment(1)", x.alignment(1), 0);
        due.is("bridged()", x.bridged(), false);
        due.is("errors", x.errors(0) + x.errors(1), 0);
    }

    private void objectsAreOfTheirOwn() {
        due.of("1: A new object");
        ProtectedLine first = new ProtectedLine(1, 2, 3, 4);
        ProtectedLine second = new ProtectedLine(1, 2, 3, 4);
        for (int i = 0; i < 30; i++) {
            second.send(6, -1);
            second.damage(i % 2, i % 12, 255);
            second.command(i % 4);
            second.drift(i % 3 - 1);
            second.tick(1);
        }
        Answers.staySame(due, "beside another one", first, new ProtectedLine(1, 2, 3, 4));
    }

    private void bytesOfSend() {
        due.of("2: bits 8 * i .. 8 * i + 7 of bytes are byte i");
        long[] values = {0, 1, 0x80, 0xff, 0x0102_0304_0506L, 0xffff_ffff_ffffL, 0x8000_0000_0000L, 0x7fff_ffffL,
            0x8000_0000L, -1, Long.MIN_VALUE, Long.MAX_VALUE};
        for (long value : values) {
            for (int n = 1; n <= 6; n++) {
                ProtectedLine x = SendingTest.ready();
                x.send(n, value);
                x.tick(4);
                due.is("delivered()", x.delivered(), 1);
                due.is("got(0, -1)", x.got(0, -1), n);
                for (int i = 0; i < n; i++) {
                    due.is("byte " + i + " of " + value, x.got(0, i), value >> 8 * i & 255);
                }
            }
        }
    }

    private void higherBytesOfSend() {
        due.of("2: A client frame of n bytes");
        for (int n = 1; n <= 6; n++) {
            ProtectedLine x = inState(1);
            ProtectedLine y = inState(1);
            x.send(n, -1L << 8 * n | 5);
            y.send(n, 5);
            Answers.staySame(due, "with higher bits, n " + n, x, y);
        }
    }

    private void sendWithAWrongNumber() {
        due.of("2: false, changing nothing, when n is not 1 .. 6");
        for (int state = 0; state < STATES; state++) {
            ProtectedLine x = inState(state);
            for (int n : new int[] {MIN, -6, -1, 0, 7, 8, 9, 256, 257, MAX}) {
                due.is("send(" + n + ")", x.send(n, 0x1234_5678_9abcL), false);
            }
            Answers.staySame(due, "state " + state, x, inState(state));
        }
    }

    private void sendWhenEightWait() {
        due.of("2: false, changing nothing, when .. 8 wait");
        ProtectedLine x = inState(2);
        ProtectedLine y = inState(2);
        due.is("waiting()", x.waiting(), 8);
        for (int n = 0; n <= 7; n++) {
            due.is("send(" + n + ")", x.send(n, 0x1234_5678_9abcL), false);
        }
        Answers.staySame(due, "full", x, y);
        due.is("delivered() at last", x.delivered() > 8, true);
    }

    private void sendAgainWhenOneWaitsNoMore() {
        due.of("2: Answers true; false .. when .. 8 wait (not when 7 do)");
        ProtectedLine x = SendingTest.ready();
        int sent = 0;
        for (int i = 0; i < 40; i++) {
            int before = x.waiting();
            boolean taken = x.send(3, i + 1);
            due.is("send with " + before + " waiting", taken, before < 8);
            sent += taken ? 1 : 0;
            if (i % 2 == 1) {
                x.tick(1);
            }
        }
        x.tick(40);
        due.is("delivered()", x.delivered(), sent);
        due.is("dropped()", x.dropped(), 0);
    }

    private void numbersOfTicks() {
        due.of("3: n ticks, and true");
        for (int n = 1; n <= 40; n++) {
            ProtectedLine x = inState(2);
            ProtectedLine y = inState(2);
            due.is("tick(" + n + ")", x.tick(n), true);
            for (int i = 0; i < n; i++) {
                y.tick(1);
            }
            Answers.same(due, n + " ticks", x, y);
        }
    }

    private void refusedTicks() {
        due.of("3: false, changing nothing, when n is not 1 .. 40");
        for (int state = 0; state < STATES; state++) {
            ProtectedLine x = inState(state);
            for (int n : new int[] {MIN, -40, -1, 0, 41, 42, 80, 256, 257, MAX}) {
                due.is("tick(" + n + ")", x.tick(n), false);
            }
            Answers.staySame(due, "state " + state, x, inState(state));
        }
    }

    private void fortyTicks() {
        due.of("3: 1 .. 40");
        due.is("tick(1)", line().tick(1), true);
        due.is("tick(40)", line().tick(40), true);
        due.is("tick(41)", line().tick(41), false);
        due.is("tick(0)", line().tick(0), false);
    }

    private void cutChangesSomething() {
        due.of("4: Cuts a line or mends it: whether that changed something");
        for (int row = 0; row < 256; row++) {
            ProtectedLine x = line();
            boolean[] cut = new boolean[2];
            for (int i = 0; i < 4; i++) {
                int which = row >> 2 * i & 1;
                boolean on = (row >> 2 * i + 1 & 1) == 1;
                due.is("cut(" + which + ", " + on + ") of row " + row, x.cut(which, on), cut[which] != on);
                cut[which] = on;
            }
            x.tick(3);
            for (int which = 0; which < 2; which++) {
                due.is("alignment(" + which + ") of row " + row, x.alignment(which), cut[which] ? 0 : 2);
            }
        }
    }

    private void cutOfNoLine() {
        due.of("4: false also when there is no such line");
        for (int state = 0; state < STATES; state++) {
            ProtectedLine x = inState(state);
            for (int which : NO_LINES) {
                due.is("cut(" + which + ", true)", x.cut(which, true), false);
                due.is("cut(" + which + ", false)", x.cut(which, false), false);
                due.is("cut(" + which + ", true)", x.cut(which, true), false);
            }
            Answers.staySame(due, "state " + state, x, inState(state));
        }
    }

    private void lostInATickInWhichItIsCut() {
        due.of("4: (What would arrive in a tick in which it is cut is lost.)");
        // Of frames sent in ticks 13 .. 20 exactly one is lost: that which would arrive in the tick of the cut.
        for (int delay = 1; delay <= 4; delay++) {
            ProtectedLine x = new ProtectedLine(delay - 1, 0, 0, 0);
            x.tick(15);
            for (int i = 0; i < 8; i++) {
                x.cut(0, i == 3);
                x.tick(1);
                due.is("sync(), delay " + delay + ", tick " + i, x.sync(), i == 3 ? 0 : 2);
                due.is("alignment(0)", x.alignment(0), 2);
            }
        }
        // Cut and mended between two ticks: nothing is lost.
        ProtectedLine y = inState(1);
        y.cut(0, true);
        y.cut(1, true);
        y.cut(0, false);
        y.cut(1, false);
        Answers.staySame(due, "cut and mended", y, inState(1));
    }

    private void damageIsForTheNextTick() {
        due.of("5: What arrives on a line in the next tick (if anything) is DAMAGED");
        for (int delay = 1; delay <= 4; delay++) {
            for (int which = 0; which < 2; which++) {
                ProtectedLine x = new ProtectedLine(delay - 1, delay - 1, 0, 0);
                x.tick(20);
                x.damage(which, 2, 1);
                x.tick(1);
                due.is("errors(" + which + "), delay " + delay, x.errors(which), 1);
                x.tick(1);
                due.is("errors(" + which + ") of the next, delay " + delay, x.errors(which), 2);
                x.tick(8);
                due.is("errors(" + which + ") of no other, delay " + delay, x.errors(which), 2);
                due.is("errors of the other line", x.errors(1 - which), 0);
                x.damage(which, 11, 1);
                x.tick(10);
                due.is("errors(" + which + ") in the first of ten ticks", x.errors(which), 3);
            }
        }
    }

    private void damageIsJoined() {
        due.of("5: the byte at the place is joined by ^ with bits, also with those told before for that tick");
        ProtectedLine x = inState(1);
        for (int bits : new int[] {255, 170, 15, 1, 255 ^ 170 ^ 15 ^ 1}) {
            for (int which = 0; which < 2; which++) {
                for (int place = 0; place < 12; place++) {
                    due.is("damage", x.damage(which, place, bits), true);
                }
            }
        }
        Answers.staySame(due, "bits that come to nothing", x, inState(1));
        Bench bench = Bench.ready();
        bench.x.damage(0, 2, 6);
        bench.x.damage(0, 2, 3);
        bench.tick(1);
        due.is("errors(0) of 6 ^ 3", bench.x.errors(0), 2);
    }

    private void damageIsGone() {
        due.of("5: (gone then, if nothing arrives)");
        for (int which = 0; which < 2; which++) {
            ProtectedLine x = new ProtectedLine(3, 3, 0, 0);
            for (int tick = 1; tick <= 4; tick++) {
                x.damage(which, 0, 255);
                x.tick(1);
            }
            x.tick(1);
            due.is("alignment(" + which + ") with the first frame", x.alignment(which), 1);
            Bench bench = Bench.ready();
            bench.x.cut(which, true);
            bench.x.damage(which, 0, 1);
            bench.tick(1);
            bench.x.cut(which, false);
            bench.tick(2);
            due.is("errors(" + which + ") behind a cut", bench.x.errors(which), 0);
        }
    }

    private void damageOfNoBits() {
        due.of("5: True (bits 0 and 255)");
        ProtectedLine x = inState(1);
        for (int place = 0; place < 12; place++) {
            due.is("damage(0, " + place + ", 0)", x.damage(0, place, 0), true);
            due.is("damage(1, " + place + ", 0)", x.damage(1, place, 0), true);
        }
        Answers.staySame(due, "no bits", x, inState(1));
        Bench bench = Bench.ready();
        due.is("damage(0, 2, 255)", bench.x.damage(0, 2, 255), true);
        bench.tick(1);
        due.is("errors(0)", bench.x.errors(0), 8);
    }

    private void refusedDamage() {
        due.of("5: false, changing nothing, when there is no such line or place, or bits is not 0 .. 255");
        for (int state = 0; state < STATES; state++) {
            ProtectedLine x = inState(state);
            for (int wrong : NO_LINES) {
                due.is("damage(" + wrong + ", 2, 1)", x.damage(wrong, 2, 1), false);
            }
            for (int wrong : NO_PLACES) {
                due.is("damage(0, " + wrong + ", 1)", x.damage(0, wrong, 1), false);
                due.is("damage(1, " + wrong + ", 1)", x.damage(1, wrong, 1), false);
            }
            for (int wrong : NO_BITS) {
                due.is("damage(0, 2, " + wrong + ")", x.damage(0, 2, wrong), false);
                due.is("damage(1, 11, " + wrong + ")", x.damage(1, 11, wrong), false);
            }
            Answers.staySame(due, "state " + state, x, inState(state));
        }
    }

    private void everyDamage() {
        due.of("5: the byte at the place");
        for (int which = 0; which < 2; which++) {
            for (int place = 0; place < 12; place++) {
                for (int bits = 1; bits < 256; bits += 23) {
                    Bench bench = Bench.ready();
                    due.is("damage", bench.x.damage(which, place, bits), true);
                    bench.tick(2);
                    int want = Integer.bitCount(bits) * (place == 2 ? 2 : 1);
                    due.is("errors(" + which + ") of place " + place, bench.x.errors(which), want);
                }
            }
        }
    }

    private void debtOfEight() {
        due.of("6: A's DEBT grows by n, and true; false, changing nothing, when it would not be -8 .. 8");
        for (int debt = -8; debt <= 8; debt++) {
            for (int n = -20; n <= 20; n++) {
                ProtectedLine x = line();
                due.is("drift(" + debt + ")", x.drift(debt), true);
                int then = debt + n;
                due.is("drift(" + n + ") from " + debt, x.drift(n), then >= -8 && then <= 8);
                int now = then >= -8 && then <= 8 ? then : debt;
                due.is("one too many from " + now, x.drift(9 - now), false);
                due.is("one too few from " + now, x.drift(-9 - now), false);
                due.is("up to 8 from " + now, x.drift(8 - now), true);
            }
            for (int n : new int[] {MIN, MIN + 1, MIN + 8, MIN + 9, MAX, MAX - 1, MAX - 8, MAX - 9, 1 << 16, -(1 << 16)}) {
                ProtectedLine x = line();
                x.drift(debt);
                due.is("drift(" + n + ") from " + debt, x.drift(n), false);
            }
        }
    }

    private void refusedDrift() {
        due.of("6: false, changing nothing");
        for (int state = 0; state < STATES; state++) {
            ProtectedLine x = inState(state);
            for (int n : new int[] {MIN, -17, 17, MAX}) {
                due.is("drift(" + n + ")", x.drift(n), false);
            }
            Answers.staySame(due, "state " + state, x, inState(state));
        }
    }

    private void driftByNothing() {
        due.of("6: A's DEBT grows by n (0)");
        for (int state = 0; state < STATES; state++) {
            ProtectedLine x = inState(state);
            due.is("drift(0)", x.drift(0), true);
            Answers.staySame(due, "state " + state, x, inState(state));
        }
    }

    private void commands() {
        due.of("7: The command at B becomes none (0), MANUAL (1), FORCED (2) or LOCKOUT (3), and true");
        int[] requests = {0, 2, 4, 5};
        for (int from = 0; from < 4; from++) {
            for (int to = 0; to < 4; to++) {
                Bench bench = Bench.ready();
                due.is("command(" + from + ")", bench.x.command(from), true);
                bench.tick(1);
                due.is("command(" + to + ")", bench.x.command(to), true);
                due.is("request() before the tick", bench.x.request(), requests[from]);
                bench.tick(1);
                due.is("request() of command " + to, bench.x.request(), requests[to]);
                bench.x.command(from);
                due.is("the latest of two", bench.x.command(to), true);
                bench.tick(1);
                due.is("request() of command " + to, bench.x.request(), requests[to]);
            }
        }
    }

    private void refusedCommands() {
        due.of("7: false, changing nothing, for other numbers");
        for (int state = 0; state < STATES; state++) {
            for (int c = 0; c < 4; c++) {
                ProtectedLine x = inState(state);
                ProtectedLine y = inState(state);
                x.command(c);
                y.command(c);
                for (int wrong : new int[] {MIN, -3, -1, 4, 5, 256, 257, MAX}) {
                    due.is("command(" + wrong + ")", x.command(wrong), false);
                }
                Answers.staySame(due, "state " + state + ", command " + c, x, y);
            }
        }
    }

    private void waitingFrames() {
        due.of("8: How many client frames wait at A");
        ProtectedLine x = line();
        due.is("waiting() of none", x.waiting(), 0);
        for (int i = 1; i <= 8; i++) {
            x.send(2, i);
            due.is("waiting()", x.waiting(), i);
        }
        x.send(2, 9);
        due.is("waiting() with one refused", x.waiting(), 8);
        // Five bytes of the stream each, so one in a tick.
        for (int left = 7; left >= 0; left--) {
            x.tick(1);
            due.is("waiting()", x.waiting(), left);
        }
        x.tick(1);
        due.is("waiting() of none", x.waiting(), 0);
    }

    private void sentBeforeTheFirstTick() {
        due.of("9: -1 when there was no tick");
        ProtectedLine x = new ProtectedLine(3, 3, 7, 7);
        x.send(1, 1);
        x.tick(0);
        x.tick(41);
        for (int which = 0; which < 2; which++) {
            for (int place = 0; place < 12; place++) {
                due.is("sent(" + which + ", " + place + ")", x.sent(which, place), -1);
            }
        }
        x.tick(1);
        due.is("sent(0, 0)", x.sent(0, 0), 246);
        due.is("sent(1, 0)", x.sent(1, 0), 246);
    }

    private void sentOfNoPlace() {
        due.of("9: -1 when .. there is no such line or place");
        for (int state = 0; state < STATES; state++) {
            ProtectedLine x = inState(state);
            for (int wrong : NO_LINES) {
                for (int place : new int[] {-1, 0, 1, 11, 12}) {
                    due.is("sent(" + wrong + ", " + place + ")", x.sent(wrong, place), -1);
                }
            }
            for (int wrong : NO_PLACES) {
                due.is("sent(0, " + wrong + ")", x.sent(0, wrong), -1);
                due.is("sent(1, " + wrong + ")", x.sent(1, wrong), -1);
            }
            due.is("sent(0, 11)", x.sent(0, 11) >= 0, state > 0);
            due.is("sent(1, 11)", x.sent(1, 11) >= 0, state > 0);
        }
    }

    private void sentIsOfTheLatestTick() {
        due.of("9: A byte of the frame that was sent on a line in the latest tick");
        // Neither a cut nor damage changes what is sent, and the delay does not matter.
        ProtectedLine plain = line();
        ProtectedLine other = new ProtectedLine(3, 0, 0, 0);
        for (int tick = 1; tick <= 20; tick++) {
            other.damage(0, tick % 12, 255);
            other.cut(0, tick % 5 == 4);
            plain.send(1, tick);
            other.send(1, tick);
            plain.tick(1);
            other.tick(1);
            for (int place = 0; place < 12; place++) {
                due.is("sent(0, " + place + "), tick " + tick, other.sent(0, place), plain.sent(0, place));
            }
        }
    }

    private void alignmentOfNoLine() {
        due.of("10: -1 when there is no such line");
        for (int state = 0; state < STATES; state++) {
            ProtectedLine x = inState(state);
            for (int wrong : NO_LINES) {
                due.is("alignment(" + wrong + ")", x.alignment(wrong), -1);
            }
            due.is("alignment(0)", x.alignment(0), state == 0 || state == 4 ? 0 : 2);
            due.is("alignment(1)", x.alignment(1), state == 0 || state == 4 ? 0 : 2);
        }
    }

    private void errorsOfNoLine() {
        due.of("11: -1 when there is no such line");
        for (int state = 0; state < STATES; state++) {
            ProtectedLine x = inState(state);
            for (int wrong : NO_LINES) {
                due.is("errors(" + wrong + ")", x.errors(wrong), -1);
            }
            due.is("errors(0)", x.errors(0), 0);
            due.is("errors(1)", x.errors(1), 0);
        }
    }

    private void requestBeforeTheFirstTick() {
        due.of("12: 0 before the first");
        for (int c = 0; c < 4; c++) {
            ProtectedLine x = line();
            x.command(c);
            x.tick(0);
            due.is("request() with command " + c, x.request(), 0);
            x.tick(1);
            due.is("request() in the first tick", x.request(), 5);
        }
    }

    private void bridgedBeforeTheFirstTick() {
        due.of("13: Whether A has the bridge on");
        ProtectedLine x = line();
        x.command(2);
        due.is("bridged()", x.bridged(), false);
        Bench bench = Bench.ready();
        bench.x.command(2);
        bench.tick(3);
        due.is("bridged(), heard twice", bench.x.bridged(), false);
        bench.tick(1);
        due.is("bridged(), heard thrice", bench.x.bridged(), true);
    }

    private void selectedBeforeTheFirstTick() {
        due.of("14: The line that is selected; 0 before the first tick");
        ProtectedLine x = line();
        x.command(2);
        x.cut(0, true);
        due.is("selected()", x.selected(), 0);
    }

    private void pointerWhenLost() {
        due.of("15: The pointer reader's v; -1 when LOST");
        due.is("pointer() at first", line().pointer(), -1);
        for (int v = 0; v < 6; v++) {
            ProtectedLine x = SendingTest.ready();
            x.drift(v);
            x.tick(30);
            due.is("pointer()", x.pointer(), v);
            x.cut(0, true);
            x.cut(1, true);
            x.tick(2);
            due.is("pointer() with two gaps", x.pointer(), v);
            x.tick(1);
            due.is("pointer() with three gaps", x.pointer(), -1);
            x.tick(20);
            due.is("pointer() with many gaps", x.pointer(), -1);
        }
    }

    private void countsAreZeroAtFirst() {
        due.of("16 .. 19: counts, and HUNT");
        for (int hold = 0; hold < 8; hold++) {
            ProtectedLine x = new ProtectedLine(hold, hold, hold, hold);
            due.is("pathErrors()", x.pathErrors(), 0);
            due.is("sync()", x.sync(), 0);
            due.is("delivered()", x.delivered(), 0);
            due.is("dropped()", x.dropped(), 0);
        }
        // They are kept while all is lost.
        Bench bench = Bench.synced();
        bench.stream(new Bytes().frame(1).frame(2).flip(0, 1).frame(3).inFives());
        bench.tick(2);
        int delivered = bench.x.delivered();
        int dropped = bench.x.dropped();
        int errors = bench.x.errors(0);
        int path = bench.x.pathErrors();
        due.is("delivered() before", delivered, 1);
        due.is("dropped() before", dropped, 2);
        due.is("errors(0) before", errors > 0, true);
        due.is("pathErrors() before", path > 0, true);
        bench.x.cut(0, true);
        bench.x.cut(1, true);
        bench.tick(40);
        due.is("sync() behind the cut", bench.x.sync(), 0);
        due.is("delivered() behind the cut", bench.x.delivered(), delivered);
        due.is("dropped() behind the cut", bench.x.dropped(), dropped);
        due.is("errors(0) behind the cut", bench.x.errors(0), errors);
        due.is("pathErrors() behind the cut", bench.x.pathErrors(), path);
    }

    private void asksChangeNothing() {
        due.of("8 .. 20: what is asked changes nothing");
        for (int state = 0; state < STATES; state++) {
            ProtectedLine x = inState(state);
            for (int i = -3; i < 15; i++) {
                Answers.same(due, "asked again", x, x);
                x.sent(i, i);
                x.alignment(i);
                x.errors(i);
                x.got(i, i);
            }
            Answers.staySame(due, "state " + state, x, inState(state));
        }
    }

    private static ProtectedLine withDelivered(int frames) {
        ProtectedLine x = SendingTest.ready();
        for (int i = 1; i <= frames; i++) {
            x.send(1 + i % 6, 0x0101_0101_0101L * i);
            x.tick(4);
        }
        return x;
    }

    private void gotOfNoFrame() {
        due.of("20: -1 when there is none such, or k is not 0 .. 7");
        for (int frames = 0; frames <= 10; frames++) {
            ProtectedLine x = withDelivered(frames);
            due.is("delivered()", x.delivered(), frames);
            for (int k : new int[] {MIN, -9, -8, -2, -1, 0, 1, 2, 3, 4, 5, 6, 7, 8, 9, 15, 16, MAX}) {
                boolean there = k >= 0 && k <= 7 && k < frames;
                due.is("got(" + k + ", -1) of " + frames, x.got(k, -1), there ? 1 + (frames - k) % 6 : -1);
                due.is("got(" + k + ", 0) of " + frames, x.got(k, 0), there ? frames - k : -1);
            }
        }
    }

    private void gotOfNoByte() {
        due.of("20: Byte i (from 0) .. or, with i = -1, the number of its bytes; -1 when there is none such");
        for (int n = 1; n <= 6; n++) {
            ProtectedLine x = SendingTest.ready();
            // A longer one before, of which nothing must show.
            x.send(6, -1);
            x.tick(4);
            x.send(n, 0x0605_0403_0201L);
            x.tick(4);
            due.is("got(0, -1)", x.got(0, -1), n);
            for (int i : new int[] {MIN, -3, -2, 0, 1, 2, 3, 4, 5, 6, 7, 8, 255, MAX}) {
                due.is("got(0, " + i + ") of " + n, x.got(0, i), i >= 0 && i < n ? i + 1 : -1);
            }
        }
    }

    private void gotOfTheEighth() {
        due.of("20: the client frame that was delivered k-th latest (from 0)");
        ProtectedLine x = SendingTest.ready();
        for (int i = 1; i <= 30; i++) {
            x.send(2, 256 * i + 3 * i);
            x.tick(4);
            for (int k = 0; k < 8; k++) {
                due.is("got(" + k + ", 1) of " + i, x.got(k, 1), k < i ? i - k : -1);
                due.is("got(" + k + ", 0) of " + i, x.got(k, 0), k < i ? 3 * (i - k) : -1);
            }
        }
        // A frame that was dropped is none of them.
        Bench bench = Bench.synced();
        bench.stream(new Bytes().frame(1).frame(2, 3).flip(2, 1).flip(1, 0).frame(4).inFives());
        due.is("dropped()", bench.x.dropped(), 1);
        due.is("got(0, 0)", bench.x.got(0, 0), 4);
        due.is("got(1, 0)", bench.x.got(1, 0), 1);
        due.is("got(2, 0)", bench.x.got(2, 0), -1);
    }

    private void fiveHundredAndTwelveCalls() {
        due.of("An object is used for at most 512 calls");
        ProtectedLine x = new ProtectedLine(3, 2, 7, 7);
        for (int call = 1; call <= 508; call++) {
            due.is("tick(40)", x.tick(40), true);
        }
        due.is("send", x.send(1, 77), true);
        due.is("tick(40)", x.tick(40), true);
        due.is("got(0, 0)", x.got(0, 0), 77);
        due.is("errors(0)", x.errors(0), 0);
        // Errors in each of so many ticks.
        Bench bench = Bench.ready();
        for (int call = 1; call <= 250; call++) {
            bench.x.damage(0, 2, 255);
            bench.tick(1);
        }
        // The damaged place 2 makes the next frame's place 2 wrong, which is damaged itself.
        due.is("errors(0)", bench.x.errors(0), 8);
    }
}
