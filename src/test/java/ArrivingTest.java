/** Promises 10 to 16: what B finds on the lines, asks and selects, and where it finds the containers. */
public final class ArrivingTest {
    private static final int[] NO_LINES = {-1, 2, Integer.MIN_VALUE, Integer.MAX_VALUE};
    /** Makes 255, which is a gap, of the pointer byte 64. */
    private static final int TO_GAP = 64 ^ 255;

    private final Due due = new Due();

    public static void main(String[] args) {
        ArrivingTest test = new ArrivingTest();
        test.alignment();
        test.alignmentOfTried();
        test.errors();
        test.errorsAtEdges();
        test.requestOrder();
        test.requestHold();
        test.requestWait();
        test.requestNoWait();
        test.bridged();
        test.bridgedByThree();
        test.selected();
        test.selectedWhileWaiting();
        test.selectedByK();
        test.pointerFound();
        test.pointerBits();
        test.pointerMoves();
        test.pointerThirdPlain();
        test.pointerEighth();
        test.pointerGaps();
        test.pointerLostByGaps();
        test.pointerOnEmptyLine();
        test.pathErrors();
        test.pathErrorsBroken();
        test.pathErrorsFloating();
        test.due.end("ArrivingTest");
    }

    private static ProtectedLine ready() {
        return SendingTest.ready();
    }

    /** A tick in which the bits of a byte on line 0 are damaged. */
    private static void damaged(ProtectedLine x, int place, int bits) {
        x.damage(0, place, bits);
        x.tick(1);
    }

    private void alignment() {
        ProtectedLine x = new ProtectedLine(0, 2, 0, 0);
        int[][] states = {{0, 0}, {1, 0}, {2, 0}, {2, 1}, {2, 2}, {2, 2}};
        for (int[] state : states) {
            x.tick(1);
            due.is("10: alignment(0) at first", x.alignment(0), state[0]);
            due.is("10: alignment(1) at first", x.alignment(1), state[1]);
        }
        for (int line : NO_LINES) {
            due.is("10: no such line", x.alignment(line), -1);
        }
        damaged(x, 0, 1);
        damaged(x, 1, 128);
        due.is("10: two that are not good", x.alignment(0), 2);
        x.tick(1);
        damaged(x, 0, 64);
        damaged(x, 1, 8);
        due.is("10: two more behind a good one", x.alignment(0), 2);
        x.cut(0, true);
        x.tick(1);
        due.is("10: the third, as nothing arrives", x.alignment(0), 0);
        due.is("10: the other line", x.alignment(1), 2);
        x.cut(0, false);
        for (int place = 2; place < 12; place++) {
            x.damage(0, place, 255);
        }
        x.tick(1);
        due.is("10: other places do not matter", x.alignment(0), 1);
        x.tick(1);
        due.is("10: IN again", x.alignment(0), 2);
    }

    private void alignmentOfTried() {
        ProtectedLine x = new ProtectedLine(0, 0, 0, 0);
        x.tick(1);
        damaged(x, 1, 1);
        due.is("10: OUT stays OUT", x.alignment(0), 0);
        x.tick(1);
        due.is("10: TRIED", x.alignment(0), 1);
        damaged(x, 0, 2);
        due.is("10: TRIED falls back at once", x.alignment(0), 0);
        x.tick(2);
        due.is("10: IN at last", x.alignment(0), 2);
        damaged(x, 0, 2);
        damaged(x, 0, 2);
        due.is("10: what was before IN does not count", x.alignment(0), 2);
    }

    private void errors() {
        ProtectedLine x = ready();
        damaged(x, 7, 0x15);
        due.is("11: not in the tick itself", x.errors(0), 0);
        x.tick(1);
        due.is("11: three bits", x.errors(0), 3);
        damaged(x, 2, 255);
        due.is("11: eight bits of place 2", x.errors(0), 11);
        x.tick(1);
        due.is("11: and the same in the next frame's", x.errors(0), 19);
        x.damage(0, 8, 6);
        x.damage(0, 9, 6);
        x.tick(3);
        due.is("11: two wrongs that can not be seen", x.errors(0), 19);
        due.is("11: line 1 has none", x.errors(1), 0);
        for (int line : NO_LINES) {
            due.is("11: no such line", x.errors(line), -1);
        }
        x.damage(1, 0, 3);
        x.tick(2);
        due.is("11: of line 1, also at place 0", x.errors(1), 2);
        due.is("11: of line 0 no more", x.errors(0), 19);
    }

    private void errorsAtEdges() {
        ProtectedLine x = new ProtectedLine(0, 0, 0, 0);
        x.tick(1);
        damaged(x, 5, 1);
        due.is("11: not when TRIED", x.errors(0), 0);
        x.tick(1);
        due.is("11: in the tick in which it is IN", x.errors(0), 1);

        ProtectedLine y = ready();
        damaged(y, 5, 1);
        y.cut(0, true);
        y.tick(1);
        y.cut(0, false);
        y.tick(2);
        due.is("11: nothing arrived in the tick before", y.errors(0), 0);

        ProtectedLine z = ready();
        damaged(z, 0, 1);
        due.is("11: the first bad one", z.errors(0), 0);
        damaged(z, 0, 1);
        due.is("11: the second one is still IN", z.errors(0), 1);
        damaged(z, 0, 1);
        due.is("11: the third one is OUT", z.errors(0), 1);
    }

    private void requestOrder() {
        int[][] requests = {{0, 2, 4, 5}, {3, 3, 4, 5}, {5, 5, 5, 5}, {5, 5, 5, 5}};
        for (int cuts = 0; cuts < 4; cuts++) {
            for (int c = 0; c < 4; c++) {
                ProtectedLine x = ready();
                x.cut(0, cuts % 2 == 1);
                x.cut(1, cuts / 2 == 1);
                x.command(c);
                x.tick(3);
                due.is("12: request, cut " + cuts + ", command " + c, x.request(), requests[cuts][c]);
            }
        }
        ProtectedLine x = new ProtectedLine(0, 3, 0, 0);
        due.is("12: before the first tick", x.request(), 0);
        x.tick(1);
        due.is("12: line 1 is OUT at first", x.request(), 5);
        x.tick(4);
        due.is("12: line 1 is TRIED", x.request(), 5);
        x.tick(1);
        due.is("12: line 1 is IN", x.request(), 0);
    }

    private void requestHold() {
        ProtectedLine x = SendingTest.ready(0, 0, 2, 0);
        x.cut(0, true);
        x.tick(4);
        due.is("12: failed for two ticks", x.request(), 0);
        x.cut(0, false);
        x.tick(1);
        due.is("12: TRIED is failed too, the third tick", x.request(), 3);
        x.tick(1);
        due.is("12: IN", x.request(), 0);
        x.cut(0, true);
        x.tick(4);
        x.cut(1, true);
        x.tick(3);
        x.cut(1, false);
        x.tick(1);
        due.is("12: line 1 is TRIED", x.request(), 5);
        x.tick(1);
        due.is("12: failed all the while", x.request(), 3);
        ProtectedLine y = new ProtectedLine(3, 0, 4, 0);
        y.tick(4);
        due.is("12: failed for four ticks from the first on", y.request(), 0);
        y.tick(1);
        due.is("12: failed for five ticks from the first on", y.request(), 3);
    }

    /** The working line has failed and is IN again; the request of the latest tick was 3. */
    private static ProtectedLine mended(int wait) {
        ProtectedLine x = SendingTest.ready(0, 0, 0, wait);
        x.cut(0, true);
        x.tick(10);
        x.cut(0, false);
        x.tick(1);
        return x;
    }

    private void requests(String what, ProtectedLine x, int... requests) {
        for (int i = 0; i < requests.length; i++) {
            x.tick(1);
            due.is("12: " + what + ", tick " + i, x.request(), requests[i]);
        }
    }

    private void requestWait() {
        requests("WAIT 3", mended(3), 1, 1, 1, 0, 0);
        requests("WAIT 0", mended(0), 0, 0);
        requests("WAIT 7", mended(7), 1, 1, 1, 1, 1, 1, 1, 0);
        ProtectedLine x = mended(5);
        requests("WAIT 5", x, 1, 1);
        x.command(1);
        requests("MANUAL ends it", x, 2);
        x.command(0);
        requests("and it is over", x, 0, 0);
        ProtectedLine y = mended(7);
        requests("WAIT 7", y, 1, 1);
        y.cut(0, true);
        requests("failing anew", y, 1, 1, 3, 3);
        y.cut(0, false);
        requests("and waiting anew", y, 3, 1, 1, 1, 1, 1, 1, 1, 0);
        ProtectedLine z = mended(4);
        requests("WAIT 4", z, 1);
        z.cut(1, true);
        requests("line 1 fails", z, 1, 1, 5);
        z.cut(1, false);
        requests("line 1 is back", z, 5, 0);
    }

    private void requestNoWait() {
        for (int c = 1; c < 4; c++) {
            ProtectedLine x = mended(4);
            x.command(c);
            x.tick(1);
            due.is("12: the command at once", x.request(), c == 1 ? 2 : c == 2 ? 4 : 5);
            x.command(0);
            requests("3 was not in the tick before", x, 0, 0);
        }
        ProtectedLine y = ready();
        y.command(2);
        y.tick(10);
        y.command(0);
        requests("no waiting behind FORCED", y, 0);
    }

    private void bridged() {
        ProtectedLine x = SendingTest.ready(0, 0, 0, 7);
        x.command(1);
        x.tick(3);
        due.is("13: MANUAL was heard twice", x.bridged(), false);
        x.tick(1);
        due.is("13: MANUAL was heard thrice", x.bridged(), true);
        x.command(0);
        x.tick(3);
        due.is("13: none was heard twice", x.bridged(), true);
        x.tick(1);
        due.is("13: none was heard thrice", x.bridged(), false);
        x.cut(0, true);
        x.tick(5);
        due.is("13: failed was heard twice", x.bridged(), false);
        x.tick(1);
        due.is("13: failed was heard thrice", x.bridged(), true);
        x.tick(6);
        x.cut(0, false);
        x.tick(8);
        due.is("13: on while B waits", x.bridged(), true);
        due.is("13: B waits", x.request(), 1);
        x.tick(4);
        due.is("13: off behind that", x.bridged(), false);
        x.command(2);
        x.tick(10);
        due.is("13: FORCED", x.bridged(), true);
        x.command(3);
        x.tick(3);
        due.is("13: LOCKOUT was heard twice", x.bridged(), true);
        x.tick(1);
        due.is("13: LOCKOUT was heard thrice", x.bridged(), false);
        due.is("13: a bridge needs a tick", new ProtectedLine(0, 0, 0, 0).bridged(), false);
    }

    private void bridgedByThree() {
        ProtectedLine x = ready();
        for (int i = 0; i < 12; i++) {
            x.command(i / 2 % 2 == 0 ? 1 : 2);
            x.tick(1);
        }
        due.is("13: never three the same", x.bridged(), false);
        x.tick(3);
        due.is("13: three the same", x.bridged(), true);
    }

    private void selected() {
        ProtectedLine x = ready();
        due.is("14: line 0", x.selected(), 0);
        x.command(1);
        // In tick 4 A has the bridge on, B hears that in 5, 6, 7.
        x.tick(6);
        due.is("14: B has heard of the bridge twice", x.selected(), 0);
        x.tick(1);
        due.is("14: B has heard of the bridge thrice", x.selected(), 1);
        x.command(0);
        x.tick(1);
        due.is("14: back at once with request 0", x.selected(), 0);
        x.command(2);
        x.tick(1);
        due.is("14: over at once, as the K is still accepted", x.selected(), 1);
        x.command(3);
        x.tick(1);
        due.is("14: back at once with request 5", x.selected(), 0);
        due.is("14: before the first tick", new ProtectedLine(1, 1, 1, 1).selected(), 0);
        ProtectedLine y = ready();
        y.cut(0, true);
        y.tick(8);
        due.is("14: not yet", y.selected(), 0);
        y.tick(1);
        due.is("14: line 0 has failed", y.selected(), 1);
        y.cut(1, true);
        y.tick(2);
        due.is("14: line 1 is still IN", y.selected(), 1);
        y.tick(1);
        due.is("14: both have failed", y.selected(), 0);
    }

    private void selectedWhileWaiting() {
        ProtectedLine x = mended(3);
        for (int i = 0; i < 3; i++) {
            x.tick(1);
            due.is("14: B waits", x.request(), 1);
            due.is("14: line 1 while B waits", x.selected(), 1);
        }
        x.tick(1);
        due.is("14: line 0 behind that", x.selected(), 0);
    }

    private void selectedByK() {
        ProtectedLine x = ready();
        x.command(1);
        x.tick(5);
        x.damage(1, 3, 2);
        x.tick(1);
        x.tick(2);
        due.is("14: one K was another one", x.selected(), 0);
        x.tick(1);
        due.is("14: three the same behind it", x.selected(), 1);
        for (int i = 0; i < 3; i++) {
            due.is("14: until the third", x.selected(), 1);
            x.damage(1, 3, 1);
            x.tick(1);
        }
        due.is("14: the third K without its lowest bit", x.selected(), 0);
        due.is("14: the request stays", x.request(), 2);
        x.tick(3);
        due.is("14: and over again", x.selected(), 1);
        for (int i = 0; i < 4; i++) {
            x.damage(1, 3, 0xfe);
            x.tick(1);
            due.is("14: the other bits do not matter", x.selected(), 1);
        }
        ProtectedLine y = ready();
        y.command(1);
        y.tick(6);
        y.cut(1, true);
        y.tick(1);
        y.cut(1, false);
        y.tick(2);
        due.is("14: a tick without K is none of three", y.selected(), 0);
        y.tick(1);
        due.is("14: three behind that", y.selected(), 1);
    }

    private void pointers(String what, ProtectedLine x, int... pointers) {
        for (int i = 0; i < pointers.length; i++) {
            x.tick(1);
            due.is("15: " + what + ", tick " + i, x.pointer(), pointers[i]);
        }
    }

    private void pointerFound() {
        pointers("found with the third", new ProtectedLine(0, 0, 0, 0), -1, -1, -1, -1, 0);
        ProtectedLine x = new ProtectedLine(0, 0, 0, 0);
        x.tick(4);
        damaged(x, 4, 1);
        due.is("15: the third is not plain", x.pointer(), -1);
        pointers("three anew", x, -1, -1, 0);
        ProtectedLine y = new ProtectedLine(0, 0, 0, 0);
        y.tick(4);
        damaged(y, 4, TO_GAP);
        due.is("15: a gap", y.pointer(), -1);
        pointers("three behind the gap", y, -1, -1, 0);
        ProtectedLine z = new ProtectedLine(0, 0, 0, 0);
        z.tick(2);
        damaged(z, 4, 9);
        damaged(z, 4, 9);
        z.tick(1);
        due.is("15: the third is for another q", z.pointer(), -1);
        damaged(z, 4, 45);
        damaged(z, 4, 45);
        damaged(z, 4, 45);
        due.is("15: three for 5", z.pointer(), 5);
        ProtectedLine six = new ProtectedLine(0, 0, 0, 0);
        six.tick(2);
        for (int i = 0; i < 3; i++) {
            damaged(six, 4, 54);
        }
        due.is("15: 64 + 9 * 6 is not plain", six.pointer(), -1);
    }

    private void pointerBits() {
        for (int v = 0; v < 6; v++) {
            for (int d = 0; d < 256; d++) {
                ProtectedLine x = ready();
                x.drift(v);
                x.tick(30);
                damaged(x, 4, d);
                int up = Integer.bitCount(d & (1 + 4 + 16));
                int down = Integer.bitCount(d & (2 + 8 + 32));
                int want = v;
                if (d < 64 && up >= 2 && down <= 1) {
                    want = (v + 1) % 6;
                } else if (d < 64 && down >= 2 && up <= 1) {
                    want = (v + 5) % 6;
                }
                due.is("15: pointer " + v + " behind the bits " + d, x.pointer(), want);
            }
        }
    }

    private void pointerMoves() {
        ProtectedLine x = ready();
        x.drift(7);
        x.tick(1);
        for (int i = 1; i <= 7; i++) {
            x.tick(1);
            due.is("15: one more, 0 behind 5", x.pointer(), i % 6);
            x.tick(3);
        }
        x.drift(-8);
        x.tick(1);
        for (int i = 1; i <= 8; i++) {
            x.tick(1);
            due.is("15: one less, 5 behind 0", x.pointer(), (13 - i) % 6);
            x.tick(3);
        }
    }

    private void pointerThirdPlain() {
        ProtectedLine x = ready();
        damaged(x, 4, 27);
        damaged(x, 4, 27);
        due.is("15: two for 3", x.pointer(), 0);
        x.tick(1);
        damaged(x, 4, 27);
        damaged(x, 4, 27);
        due.is("15: an understood one ends the row", x.pointer(), 0);
        damaged(x, 4, 64);
        damaged(x, 4, 27);
        due.is("15: one that is not plain too", x.pointer(), 0);
        damaged(x, 4, 27);
        damaged(x, 4, 36);
        due.is("15: one for 4 too", x.pointer(), 0);
        x.tick(1);
        damaged(x, 4, 36);
        damaged(x, 4, 36);
        damaged(x, 4, 36);
        due.is("15: three for 4", x.pointer(), 4);
        pointers("and three for 0", x, 4, 4, 0);
        damaged(x, 4, 36);
        damaged(x, 4, 36);
        damaged(x, 4, 21);
        due.is("15: a justified one", x.pointer(), 1);
        x.tick(2);
        due.is("15: has ended the row", x.pointer(), 1);
        x.tick(1);
        due.is("15: three for 0", x.pointer(), 0);
    }

    private void pointerEighth() {
        ProtectedLine x = ready();
        for (int i = 0; i < 7; i++) {
            damaged(x, 4, 128);
        }
        due.is("15: seven", x.pointer(), 0);
        x.tick(1);
        for (int i = 0; i < 7; i++) {
            damaged(x, 4, 1);
            due.is("15: seven anew", x.pointer(), 0);
        }
        damaged(x, 4, 9);
        due.is("15: the eighth", x.pointer(), -1);
        damaged(x, 4, 9);
        damaged(x, 4, 9);
        due.is("15: it is none of the three behind it", x.pointer(), -1);
        damaged(x, 4, 9);
        due.is("15: three for 1", x.pointer(), 1);

        ProtectedLine y = ready();
        for (int i = 0; i < 5; i++) {
            damaged(y, 4, 128);
        }
        for (int i = 0; i < 3; i++) {
            damaged(y, 4, 45);
        }
        due.is("15: the eighth is a third", y.pointer(), 5);
        for (int i = 0; i < 7; i++) {
            damaged(y, 4, 128);
            due.is("15: the row of eight begins anew", y.pointer(), 5);
        }
        damaged(y, 4, 128);
        due.is("15: and ends", y.pointer(), -1);
    }

    private void pointerGaps() {
        ProtectedLine x = ready();
        damaged(x, 4, 18);
        damaged(x, 4, TO_GAP);
        damaged(x, 4, TO_GAP);
        damaged(x, 4, 18);
        damaged(x, 4, TO_GAP);
        due.is("15: gaps are none of the three", x.pointer(), 0);
        damaged(x, 4, 18);
        due.is("15: gaps do not end the row of three", x.pointer(), 2);

        ProtectedLine y = ready();
        for (int i = 0; i < 7; i++) {
            damaged(y, 4, 64);
            damaged(y, 4, TO_GAP);
        }
        due.is("15: gaps are none of the eight", y.pointer(), 0);
        damaged(y, 4, 64);
        due.is("15: gaps do not end the row of eight", y.pointer(), -1);
    }

    private void pointerLostByGaps() {
        ProtectedLine x = ready();
        x.cut(0, true);
        x.tick(2);
        due.is("15: two gaps", x.pointer(), 0);
        x.cut(0, false);
        x.tick(1);
        damaged(x, 4, TO_GAP);
        damaged(x, 4, TO_GAP);
        due.is("15: two more", x.pointer(), 0);
        damaged(x, 4, TO_GAP);
        due.is("15: the third in a row", x.pointer(), -1);
        pointers("found again", x, -1, -1, 0);

        // What stood in the rows before it was LOST is gone.
        ProtectedLine y = ready();
        for (int i = 0; i < 7; i++) {
            damaged(y, 4, 128);
        }
        for (int i = 0; i < 3; i++) {
            damaged(y, 4, TO_GAP);
        }
        y.tick(3);
        damaged(y, 4, 128);
        due.is("15: the row of eight is a new one", y.pointer(), 0);

        ProtectedLine z = ready();
        damaged(z, 4, 9);
        damaged(z, 4, 9);
        for (int i = 0; i < 3; i++) {
            damaged(z, 4, TO_GAP);
        }
        damaged(z, 4, 9);
        damaged(z, 4, 9);
        due.is("15: the row of three is a new one", z.pointer(), -1);
        damaged(z, 4, 9);
        due.is("15: three for 1 behind the gaps", z.pointer(), 1);
    }

    /** Line 1 without the bridge has 255 at place 4, a gap; B may select it while it has an old K. */
    private void pointerOnEmptyLine() {
        ProtectedLine x = ready();
        x.command(1);
        x.tick(10);
        due.is("15: on line 1", x.selected(), 1);
        due.is("15: over to line 1 without a loss", x.pointer(), 0);
        due.is("15: not even in the stream", x.sync(), 2);
        x.command(0);
        x.tick(4);
        due.is("15: the bridge is off", x.bridged(), false);
        due.is("15: back without a loss", x.sync(), 2);
        x.command(1);
        for (int i = 0; i < 2; i++) {
            x.tick(1);
            due.is("15: on the empty line 1", x.selected(), 1);
            due.is("15: a gap", x.sync(), 0);
            due.is("15: but not LOST", x.pointer(), 0);
        }
        x.tick(1);
        due.is("15: B has heard that the bridge is off", x.selected(), 0);
        due.is("15: the pointer was kept", x.sync(), 2);
    }

    private void pathErrors() {
        ProtectedLine x = ready();
        damaged(x, 8, 0x81);
        due.is("16: not before the next first byte", x.pathErrors(), 0);
        x.tick(1);
        due.is("16: two bits", x.pathErrors(), 2);
        damaged(x, 6, 7);
        due.is("16: of the first byte itself", x.pathErrors(), 5);
        x.tick(1);
        due.is("16: which is in the next one's too", x.pathErrors(), 8);
        x.damage(0, 5, 255);
        x.damage(0, 2, 255);
        x.tick(3);
        due.is("16: other places do not matter", x.pathErrors(), 8);
        x.damage(0, 9, 32);
        x.damage(0, 10, 32);
        x.tick(3);
        due.is("16: two wrongs that can not be seen", x.pathErrors(), 8);
    }

    private void pathErrorsBroken() {
        ProtectedLine x = ready();
        damaged(x, 8, 1);
        damaged(x, 4, TO_GAP);
        x.tick(3);
        due.is("16: a gap between", x.pathErrors(), 0);
        x.drift(5);
        x.tick(30);
        due.is("16: v 5", x.pointer(), 5);
        for (int i = 0; i < 4; i++) {
            damaged(x, 4, 109 ^ 255);
            damaged(x, 8, 1);
            x.tick(2);
            due.is("16: five bytes behind a gap", x.pathErrors(), 0);
        }

        ProtectedLine y = ready();
        for (int i = 0; i < 7; i++) {
            damaged(y, 4, 128);
        }
        due.is("16: frames that are not understood are read", y.pathErrors(), 0);
        y.damage(0, 4, 128);
        y.damage(0, 6, 255);
        y.tick(1);
        due.is("16: LOST holds for the eighth", y.pathErrors(), 0);
        y.tick(5);
        due.is("16: LOST between", y.pathErrors(), 0);

        // The third for q holds for its frame: its first byte is no sixth behind the one before.
        for (int q = 1; q < 6; q++) {
            for (int bits = 0; bits < 256; bits += 15) {
                ProtectedLine z = ready();
                damaged(z, 4, 9 * q);
                damaged(z, 4, 9 * q);
                z.damage(0, 4, 9 * q);
                z.damage(0, 6 + q, bits);
                z.tick(1);
                due.is("16: v was changed between", z.pathErrors(), 0);
                due.is("16: v", z.pointer(), q);
            }
        }
        ProtectedLine w = ready();
        w.damage(0, 4, 128);
        w.damage(0, 6, 255);
        w.tick(1);
        due.is("16: one that is not understood counts", w.pathErrors(), 8);
    }

    private void pathErrorsFloating() {
        for (int debt = -8; debt <= 8; debt++) {
            ProtectedLine x = ready();
            x.drift(debt);
            x.tick(40);
            due.is("16: none while the pointer moves", x.pathErrors(), 0);
            due.is("16: in step", x.sync(), 2);
            due.is("16: the pointer", x.pointer(), Math.floorMod(debt, 6));
            damaged(x, 6 + x.pointer(), 1);
            x.tick(2);
            due.is("16: a first byte where the pointer says", x.pathErrors(), 2);
        }
        // Seven bytes from 0 on have two first bytes: places 5 and 11.
        ProtectedLine y = ready();
        y.drift(-1);
        y.tick(1);
        damaged(y, 11, 15);
        due.is("16: the second first byte", y.pathErrors(), 4);
        y.tick(1);
        due.is("16: joined in the next", y.pathErrors(), 8);
        // Five bytes with v 5 have none.
        ProtectedLine z = ready();
        z.drift(5);
        z.tick(20);
        z.drift(1);
        z.tick(1);
        damaged(z, 9, 3);
        due.is("16: no first byte at all", z.pathErrors(), 0);
        due.is("16: then v is 0", z.pointer(), 0);
        z.tick(1);
        due.is("16: but the next one", z.pathErrors(), 2);
    }
}
