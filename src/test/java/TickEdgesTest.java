/**
 * The eight steps of the document's tick: one test for each sentence that names a boundary case.
 * Each test begins with the words that it is about.
 */
public final class TickEdgesTest {
    private static final int OUT = 0;
    private static final int TRIED = 1;
    private static final int IN = 2;

    private final Due due = new Due();

    public static void main(String[] args) {
        TickEdgesTest test = new TickEdgesTest();
        test.noKBeforeOneWasSentSoLongAgo();
        test.noKWhenTheBackLineIsCut();
        test.threeTheSameAtA();
        test.theLowestBitMakesAnotherK();
        test.bridgeIsOnForOneToFour();
        test.bridgeIsOffForZeroAndFive();
        test.kOfABeforeAnythingWasAccepted();
        test.aAcceptsBeforeItSends();
        test.nothingArrivesWhenCut();
        test.nothingArrivesBeforeTheDelay();
        test.goodNeedsBothPlaces();
        test.alignmentSteps();
        test.outWithTheThird();
        test.failedWhenNotIn();
        test.errorsOnlyWhenIn();
        test.errorsNeedTwoTicks();
        test.errorsAreBits();
        test.kOfANeedsLineOneIn();
        test.kOfANeedsAnArrival();
        test.kOfANeedsNoGoodFrame();
        test.threeTheSameAtB();
        test.lockoutOrLineOneFailed();
        test.forcedComesBeforeFailed();
        test.failedForMoreThanHold();
        test.holdIsInARow();
        test.failedComesBeforeManual();
        test.manualComesBeforeWaiting();
        test.waitingBeginsBehindThree();
        test.waitingForWaitTicks();
        test.noWaitingWhenWaitIsZero();
        test.waitingEnds();
        test.selectsByRequest();
        test.selectsByTheLowestBit();
        test.gapWhenTheSelectedLineIsNotIn();
        test.gapWhenNothingArrived();
        test.gapWhenThePointerByteIs255();
        test.noGapByTheOtherLine();
        test.kOfB();
        test.due.end("TickEdgesTest");
    }

    private void requests(String what, ProtectedLine x, int... want) {
        for (int i = 0; i < want.length; i++) {
            x.tick(1);
            due.is("request() " + what + ", tick " + (i + 1), x.request(), want[i]);
        }
    }

    /** Line 0 failed, request 3, and it is IN again with the next tick. */
    private static ProtectedLine mended(int hold, int wait) {
        ProtectedLine x = new ProtectedLine(0, 0, hold, wait);
        x.tick(12);
        x.cut(0, true);
        x.tick(20);
        x.cut(0, false);
        x.tick(1);
        return x;
    }

    private void noKBeforeOneWasSentSoLongAgo() {
        due.of("(1) THE K OF B that arrives at A on the back line, when .. one was sent so long ago");
        for (int delay = 1; delay <= 4; delay++) {
            ProtectedLine x = new ProtectedLine(0, delay - 1, 0, 0);
            for (int tick = 1; tick <= 14; tick++) {
                x.tick(1);
                // B asks for 5 in ticks 1 .. delay + 1, for 0 from then on.
                boolean five = delay >= 2 && tick >= delay + 3 && tick < 2 * delay + 4;
                due.is("K of A, delay " + delay + ", tick " + tick, Bench.plain(x, 1, 3), five ? 80 : 0);
            }
        }
    }

    private void noKWhenTheBackLineIsCut() {
        due.of("(1) THE K OF B that arrives at A on the back line, when that is not cut");
        for (int tick = 2; tick <= 4; tick++) {
            Bench bench = Bench.ready();
            bench.x.command(1);
            bench.tick(tick - 1);
            bench.x.cut(1, true);
            bench.tick(1);
            bench.x.cut(1, false);
            for (int later = tick + 1; later <= tick + 3; later++) {
                due.is("bridged(), cut in tick " + tick + ", before tick " + later, bench.x.bridged(), false);
                bench.tick(1);
            }
            due.is("bridged(), cut in tick " + tick, bench.x.bridged(), true);
        }
    }

    private void threeTheSameAtA() {
        due.of("(1) when the three that arrived in this tick and the two before are the same, A ACCEPTS it");
        Bench bench = Bench.ready();
        bench.x.command(1);
        bench.tick(2);
        bench.x.command(2);
        bench.tick(2);
        due.is("K of A with 32, 32, 64", bench.plain(1, 3), 0);
        bench.x.command(1);
        bench.tick(2);
        due.is("K of A with 64, 64, 32", bench.plain(1, 3), 0);
        bench.tick(1);
        due.is("K of A with 32, 32", bench.plain(1, 3), 0);
        bench.tick(1);
        due.is("K of A with 32, 32, 32", bench.plain(1, 3), 33);
        bench.x.command(3);
        bench.tick(2);
        bench.x.command(1);
        bench.tick(4);
        due.is("K of A stays with 80, 80, 32", bench.plain(1, 3), 33);
    }

    private void theLowestBitMakesAnotherK() {
        due.of("(1) when the three .. are the same; (8) plus 1 when line 1 is selected");
        Bench bench = Bench.over(0, 0);
        bench.x.command(0);
        bench.tick(4);
        due.is("bridged()", bench.x.bridged(), false);
        bench.x.command(1);
        // B still has an old K of A with 1, until it hears of the bridge that is off: it sends 33, 33, 32, 32, 32.
        int[] selected = {1, 1, 0, 0, 0, 0};
        for (int i = 0; i < 6; i++) {
            bench.tick(1);
            due.is("selected(), tick " + (i + 1), bench.x.selected(), selected[i]);
            due.is("bridged(), tick " + (i + 1), bench.x.bridged(), i == 5);
        }
    }

    private void bridgeIsOnForOneToFour() {
        due.of("(1) the bridge is on when that is 1 .. 4");
        Bench manual = Bench.ready();
        manual.x.command(1);
        manual.tick(4);
        due.is("bridged() for 2", manual.x.bridged(), true);
        due.is("K of A for 2", manual.plain(1, 3), 33);
        Bench forced = Bench.ready();
        forced.x.command(2);
        forced.tick(4);
        due.is("bridged() for 4", forced.x.bridged(), true);
        due.is("K of A for 4", forced.plain(1, 3), 65);
        Bench failed = Bench.ready();
        failed.x.cut(0, true);
        failed.tick(6);
        due.is("bridged() for 3", failed.x.bridged(), true);
        due.is("K of A for 3", failed.plain(1, 3), 49);
        ProtectedLine waiting = mended(0, 7);
        waiting.tick(4);
        due.is("request()", waiting.request(), 1);
        due.is("bridged() for 1", waiting.bridged(), true);
        due.is("K of A for 1", Bench.plain(waiting, 1, 3), 17);
    }

    private void bridgeIsOffForZeroAndFive() {
        due.of("(1) and off otherwise");
        for (int c : new int[] {0, 3}) {
            Bench bench = Bench.over(0, 0);
            bench.x.command(c);
            bench.tick(3);
            due.is("bridged(), heard twice", bench.x.bridged(), true);
            bench.tick(1);
            due.is("bridged(), heard thrice", bench.x.bridged(), false);
            due.is("K of A", bench.plain(1, 3), c == 0 ? 0 : 80);
        }
    }

    private void kOfABeforeAnythingWasAccepted() {
        due.of("(2) its K is 16 * the accepted request, plus 1 when the bridge is on (0 before anything was accepted)");
        ProtectedLine x = new ProtectedLine(3, 3, 0, 0);
        for (int tick = 1; tick <= 6; tick++) {
            x.tick(1);
            due.is("K of A, tick " + tick, Bench.plain(x, 1, 3), 0);
            due.is("bridged(), tick " + tick, x.bridged(), false);
        }
        x.tick(1);
        due.is("K of A, tick 7", Bench.plain(x, 1, 3), 80);
        due.is("bridged(), tick 7", x.bridged(), false);
    }

    private void aAcceptsBeforeItSends() {
        due.of("A TICK, in this order. (1) .. (2) A sends on both lines");
        Bench bench = Bench.ready();
        bench.x.command(2);
        bench.tick(3);
        due.is("line 1 is empty", bench.plain(1, 4), 255);
        bench.tick(1);
        due.is("line 1 is bridged in the tick of accepting", bench.plain(1, 4), 64);
        due.is("K of A", bench.plain(1, 3), 65);
        bench.x.command(3);
        bench.tick(3);
        due.is("line 1 is bridged", bench.plain(1, 4), 64);
        bench.tick(1);
        due.is("line 1 is empty in the tick of accepting", bench.plain(1, 4), 255);
    }

    private void nothingArrivesWhenCut() {
        due.of("(3) What arrives on each line (nothing when the line is cut");
        for (int line = 0; line < 2; line++) {
            ProtectedLine x = new ProtectedLine(3, 3, 0, 0);
            x.cut(line, true);
            x.tick(10);
            due.is("alignment(" + line + ")", x.alignment(line), OUT);
            due.is("alignment of the other", x.alignment(1 - line), IN);
            x.cut(line, false);
            x.tick(1);
            due.is("alignment(" + line + ") with what was sent while it was cut", x.alignment(line), TRIED);
        }
    }

    private void nothingArrivesBeforeTheDelay() {
        due.of("(3) or nothing was sent so long ago)");
        for (int delay = 1; delay <= 4; delay++) {
            ProtectedLine x = new ProtectedLine(delay - 1, delay - 1, 0, 0);
            x.tick(delay);
            due.is("alignment(0), delay " + delay, x.alignment(0), OUT);
            due.is("alignment(1), delay " + delay, x.alignment(1), OUT);
            x.tick(1);
            due.is("alignment(0), delay " + delay, x.alignment(0), TRIED);
            due.is("alignment(1), delay " + delay, x.alignment(1), TRIED);
        }
    }

    private void goodNeedsBothPlaces() {
        due.of("(3) It is GOOD when something arrives and places 0 and 1 are 246 and 40");
        for (int line = 0; line < 2; line++) {
            for (int place = 0; place < 12; place++) {
                for (int bit = 0; bit < 8; bit++) {
                    ProtectedLine x = new ProtectedLine(0, 0, 0, 0);
                    x.tick(1);
                    x.damage(line, place, 1 << bit);
                    x.tick(1);
                    due.is("alignment(" + line + ") with bit " + bit + " of place " + place, x.alignment(line),
                        place < 2 ? OUT : TRIED);
                }
            }
            Bench swapped = Bench.fresh(0, 0);
            swapped.tick(1);
            swapped.will(line, 0, 40).will(line, 1, 246).tick(1);
            due.is("alignment(" + line + ") with both in each other's place", swapped.x.alignment(line), OUT);
        }
    }

    private void alignmentSteps() {
        due.of("(3) OUT becomes TRIED when good; TRIED becomes IN when good and OUT otherwise");
        for (int row = 0; row < 512; row++) {
            for (int line = 0; line < 2; line++) {
                ProtectedLine x = new ProtectedLine(0, 0, 0, 0);
                x.tick(1);
                int state = OUT;
                int bad = 0;
                for (int i = 0; i < 9; i++) {
                    boolean good = (row >> i & 1) == 1;
                    bad = good ? 0 : bad + 1;
                    if (good) {
                        state = state == OUT ? TRIED : IN;
                    } else if (state == TRIED || bad == 3) {
                        state = OUT;
                    }
                    if (!good) {
                        x.damage(line, i % 2, 1 + i);
                    }
                    x.tick(1);
                    due.is("alignment(" + line + "), row " + row + ", tick " + i, x.alignment(line), state);
                }
            }
        }
    }

    private void outWithTheThird() {
        due.of("(3) IN becomes OUT with the third one in a row that is not good");
        for (int line = 0; line < 2; line++) {
            Bench bench = Bench.ready();
            bench.bad(line).bad(line).tick(1).bad(line).bad(line);
            due.is("alignment(" + line + "), two and two", bench.x.alignment(line), IN);
            bench.bad(line);
            due.is("alignment(" + line + "), the third", bench.x.alignment(line), OUT);
            // Ticks in which nothing arrives are not good either.
            for (int cuts = 0; cuts < 8; cuts++) {
                Bench mixed = Bench.ready();
                for (int i = 0; i < 3; i++) {
                    due.is("alignment(" + line + "), " + i + " of " + cuts, mixed.x.alignment(line), IN);
                    mixed.x.cut(line, (cuts >> i & 1) == 1);
                    mixed.bad(line);
                }
                due.is("alignment(" + line + "), three of " + cuts, mixed.x.alignment(line), OUT);
            }
        }
    }

    private void failedWhenNotIn() {
        due.of("(3) The line has FAILED when it is not IN then");
        ProtectedLine x = new ProtectedLine(0, 0, 0, 0);
        requests("line 1 OUT, TRIED, IN", x, 5, 5, 0);
        ProtectedLine y = new ProtectedLine(3, 0, 0, 0);
        requests("line 0 OUT, TRIED, IN", y, 5, 5, 3, 3, 3, 0);
        Bench bench = Bench.ready();
        bench.bad(0).bad(0);
        due.is("request() with two that are not good", bench.x.request(), 0);
        bench.bad(0);
        due.is("request() with three that are not good", bench.x.request(), 3);
    }

    private void errorsOnlyWhenIn() {
        due.of("(3) When it is IN ..");
        for (int line = 0; line < 2; line++) {
            ProtectedLine x = new ProtectedLine(0, 0, 0, 0);
            x.tick(1);
            x.damage(line, 2, 255);
            x.tick(1);
            due.is("errors(" + line + ") when TRIED", x.errors(line), 0);
            x.damage(line, 2, 3);
            x.tick(1);
            due.is("errors(" + line + ") with the tick in which it is IN", x.errors(line), 6);
            Bench bench = Bench.ready();
            for (int i = 0; i < 2; i++) {
                bench.x.damage(line, 0, 1);
                bench.x.damage(line, 2, 1);
                bench.tick(1);
            }
            due.is("errors(" + line + ") with two that are not good", bench.x.errors(line), 2);
            bench.x.damage(line, 2, 254);
            bench.bad(line);
            due.is("errors(" + line + ") when OUT", bench.x.errors(line), 2);
            bench.x.damage(line, 2, 254);
            bench.tick(1);
            due.is("errors(" + line + ") when TRIED again", bench.x.errors(line), 2);
        }
    }

    private void errorsNeedTwoTicks() {
        due.of("(3) .. and something arrived in this tick and the one before");
        for (int line = 0; line < 2; line++) {
            Bench now = Bench.ready();
            now.x.damage(line, 7, 1);
            now.tick(1);
            now.x.cut(line, true);
            now.x.damage(line, 2, 255);
            now.tick(1);
            due.is("errors(" + line + ") when nothing arrives", now.x.errors(line), 0);
            now.x.cut(line, false);
            now.x.damage(line, 2, 255);
            now.tick(1);
            due.is("errors(" + line + ") when nothing arrived before", now.x.errors(line), 0);
            due.is("alignment(" + line + ")", now.x.alignment(line), IN);
            now.tick(1);
            due.is("errors(" + line + ") with the next", now.x.errors(line), 8);
        }
    }

    private void errorsAreBits() {
        due.of("(3) those bits of place 2 (without the row) that are not those of all twelve bytes that arrived in the tick before joined by ^");
        for (int line = 0; line < 2; line++) {
            for (int place = 0; place < 12; place++) {
                Bench bench = Bench.ready();
                bench.x.damage(line, place, 0x37);
                bench.tick(1);
                due.is("errors(" + line + ") of place " + place, bench.x.errors(line), place == 2 ? 5 : 0);
                bench.tick(1);
                due.is("errors(" + line + ") of place " + place + " a tick later", bench.x.errors(line), place == 2 ? 10 : 5);
                due.is("errors of the other line", bench.x.errors(1 - line), 0);
                bench.tick(5);
                due.is("errors(" + line + ") no more", bench.x.errors(line), place == 2 ? 10 : 5);
            }
        }
    }

    private void kOfANeedsLineOneIn() {
        due.of("(4) When line 1 is IN ..");
        Bench bench = Bench.over(0, 0);
        bench.x.cut(1, true);
        bench.tick(3);
        bench.x.cut(1, false);
        bench.k(32);
        due.is("alignment(1)", bench.x.alignment(1), TRIED);
        bench.k(32);
        due.is("selected(), one K", bench.x.selected(), 1);
        bench.k(32);
        due.is("selected(), two K: that of TRIED is none", bench.x.selected(), 1);
        bench.k(32);
        due.is("selected(), three K", bench.x.selected(), 0);
    }

    private void kOfANeedsAnArrival() {
        due.of("(4) .. and something arrived on it");
        for (int missing = 0; missing < 2; missing++) {
            Bench bench = Bench.over(0, 0);
            for (int i = 0; i < 4; i++) {
                bench.x.cut(1, i == 1 + missing);
                bench.k(32);
                due.is("selected(), tick " + i, bench.x.selected(), 1);
            }
            bench.k(32);
            due.is("selected(), the last tick", bench.x.selected(), missing == 0 ? 0 : 1);
        }
    }

    private void kOfANeedsNoGoodFrame() {
        due.of("(4) When line 1 is IN and something arrived on it, place 3 (without the row) is the K of A");
        Bench bench = Bench.over(0, 0);
        bench.x.damage(1, 0, 1);
        bench.k(32);
        bench.x.damage(1, 1, 1);
        bench.k(32);
        due.is("selected(), two K in frames that are not good", bench.x.selected(), 1);
        bench.k(32);
        due.is("selected(), and a third", bench.x.selected(), 0);
    }

    private void threeTheSameAtB() {
        due.of("(4) when the three in this tick and the two before are the same, B accepts it");
        Bench bench = Bench.over(0, 0);
        bench.k(32).k(32).k(34).k(32).k(32).k(0).k(0);
        due.is("selected(), never three the same", bench.x.selected(), 1);
        bench.k(0);
        due.is("selected(), three the same", bench.x.selected(), 0);
        bench.k(1).k(1).k(3).k(3);
        due.is("selected(), all with 1, but never three the same", bench.x.selected(), 0);
        bench.k(3);
        due.is("selected(), three the same", bench.x.selected(), 1);
    }

    private void lockoutOrLineOneFailed() {
        due.of("(5) B's REQUEST is the first that holds of: 5 when the command is LOCKOUT or line 1 has failed");
        for (int c = 0; c < 4; c++) {
            for (int cut = 0; cut < 2; cut++) {
                Bench bench = Bench.ready();
                bench.x.command(c);
                bench.x.cut(0, cut == 1);
                bench.x.cut(1, true);
                bench.tick(2);
                due.is("request() before, command " + c, bench.x.request(), new int[] {0, 2, 4, 5}[c]);
                bench.tick(1);
                due.is("request() with line 1 OUT, command " + c, bench.x.request(), 5);
                bench.x.cut(1, false);
                bench.tick(1);
                due.is("request() with line 1 TRIED, command " + c, bench.x.request(), 5);
            }
        }
        Bench lockout = Bench.ready();
        lockout.x.command(3);
        lockout.x.cut(0, true);
        requests("LOCKOUT", lockout.x, 5, 5, 5, 5);
    }

    private void forcedComesBeforeFailed() {
        due.of("(5) 4 when the command is FORCED");
        Bench bench = Bench.ready();
        bench.x.cut(0, true);
        bench.tick(5);
        due.is("request() before", bench.x.request(), 3);
        bench.x.command(2);
        requests("FORCED", bench.x, 4, 4);
        bench.x.command(0);
        requests("no command", bench.x, 3);
    }

    private void failedForMoreThanHold() {
        due.of("(5) 3 when line 0 has failed for more than HOLD ticks in a row (this one included)");
        for (int hold = 0; hold < 8; hold++) {
            Bench bench = Bench.ready(hold, 0);
            bench.x.cut(0, true);
            bench.tick(2);
            for (int failed = 1; failed <= 10; failed++) {
                bench.tick(1);
                due.is("request(), HOLD " + hold + ", failed " + failed, bench.x.request(), failed > hold ? 3 : 0);
            }
            // From the first tick on line 0 has failed: it is OUT.
            ProtectedLine late = new ProtectedLine(0, 0, hold, 0);
            late.cut(0, true);
            late.tick(2);
            for (int tick = 3; tick <= 10; tick++) {
                late.tick(1);
                due.is("request(), HOLD " + hold + ", tick " + tick, late.request(), tick > hold ? 3 : 0);
            }
        }
    }

    private void holdIsInARow() {
        due.of("(5) in a row");
        Bench bench = Bench.ready(3, 0);
        for (int i = 0; i < 4; i++) {
            // OUT, TRIED, IN: two ticks in which it has failed.
            bench.bad(0).bad(0).bad(0).tick(2);
            due.is("request()", bench.x.request(), 0);
            due.is("alignment(0)", bench.x.alignment(0), IN);
        }
        bench.bad(0).bad(0).bad(0).bad(0).bad(0);
        due.is("request() with three in a row", bench.x.request(), 0);
        bench.tick(1);
        due.is("request() with four in a row", bench.x.request(), 3);
    }

    private void failedComesBeforeManual() {
        due.of("(5) 3 when .. ; 2 when the command is MANUAL");
        Bench bench = Bench.ready(2, 0);
        bench.x.command(1);
        bench.x.cut(0, true);
        requests("MANUAL, then failed", bench.x, 2, 2, 2, 2, 3, 3);
        bench.x.cut(0, false);
        requests("MANUAL behind failed", bench.x, 3, 2, 2);
    }

    private void manualComesBeforeWaiting() {
        due.of("(5) 2 when the command is MANUAL; 1 while WAITING; 0");
        ProtectedLine x = mended(0, 7);
        x.command(1);
        requests("MANUAL", x, 2);
        ProtectedLine y = mended(0, 2);
        requests("WAITING, then 0", y, 1, 1, 0, 0);
    }

    private void waitingBeginsBehindThree() {
        due.of("(5) B begins WAITING when its request was 3 in the tick before and is none of 2 .. 5 now");
        requests("behind 3", mended(0, 2), 1, 1, 0);
        for (int c = 1; c < 4; c++) {
            Bench bench = Bench.ready(0, 4);
            bench.x.command(c);
            bench.tick(5);
            bench.x.command(0);
            requests("behind command " + c, bench.x, 0, 0);
            ProtectedLine x = mended(0, 4);
            x.command(c);
            requests("behind 3, command " + c, x, new int[] {0, 2, 4, 5}[c]);
            x.command(0);
            requests("behind command " + c + " behind 3", x, 0, 0);
        }
        // Line 0 may have failed and HOLD not be over: then the request was not 3.
        Bench held = Bench.ready(7, 4);
        held.bad(0).bad(0).bad(0);
        requests("failed, but not for HOLD", held.x, 0, 0, 0, 0);
    }

    private void waitingForWaitTicks() {
        due.of("(5) for WAIT ticks, this one included");
        for (int wait = 1; wait < 8; wait++) {
            ProtectedLine x = mended(1, wait);
            for (int tick = 1; tick <= 9; tick++) {
                x.tick(1);
                due.is("request(), WAIT " + wait + ", tick " + tick, x.request(), tick <= wait ? 1 : 0);
            }
        }
        // It may begin while line 0 fails anew: HOLD is not over then.
        ProtectedLine again = mended(2, 7);
        again.cut(0, true);
        again.tick(1);
        due.is("request() when line 0 did not get IN", again.request(), 3);
        ProtectedLine held = mended(4, 7);
        held.tick(1);
        held.cut(0, true);
        requests("WAITING while HOLD is not over", held, 1, 1, 1, 1, 1, 1, 3);
    }

    private void noWaitingWhenWaitIsZero() {
        due.of("(5) (not at all when WAIT is 0)");
        requests("WAIT 0", mended(0, 0), 0, 0, 0);
        requests("WAIT 8, which is 0", mended(0, 8), 0, 0, 0);
    }

    private void waitingEnds() {
        due.of("(5) it ends when the request is one of 2 .. 5");
        for (int c = 1; c < 4; c++) {
            ProtectedLine x = mended(0, 7);
            requests("WAITING", x, 1, 1);
            x.command(c);
            requests("command " + c, x, new int[] {0, 2, 4, 5}[c]);
            x.command(0);
            requests("behind command " + c, x, 0, 0);
        }
        ProtectedLine failing = mended(0, 7);
        requests("WAITING", failing, 1);
        failing.cut(0, true);
        requests("failing anew", failing, 1, 1, 3);
        failing.cut(0, false);
        requests("WAITING anew, all of it", failing, 3, 1, 1, 1, 1, 1, 1, 1, 0);
        ProtectedLine protection = mended(0, 7);
        protection.cut(1, true);
        requests("line 1 fails", protection, 1, 1, 5);
        protection.cut(1, false);
        requests("line 1 is back", protection, 5, 0, 0);
    }

    private void selectsByRequest() {
        due.of("(6) B SELECTS line 1 when its request is 1 .. 4 and ..");
        for (int c = 0; c < 4; c++) {
            Bench bench = Bench.over(0, 0);
            bench.x.command(c);
            bench.tick(1);
            due.is("selected() with command " + c, bench.x.selected(), c == 1 || c == 2 ? 1 : 0);
        }
        ProtectedLine x = mended(0, 3);
        int[] requests = {1, 1, 1, 0};
        due.is("selected() with 3", x.selected(), 1);
        for (int request : requests) {
            x.tick(1);
            due.is("request()", x.request(), request);
            due.is("selected() with " + request, x.selected(), request == 1 ? 1 : 0);
        }
        Bench failed = Bench.over(0, 0);
        failed.x.cut(1, true);
        failed.tick(2);
        due.is("selected() with line 1 cut, but IN", failed.x.selected(), 1);
        failed.tick(1);
        due.is("selected() with line 1 failed", failed.x.selected(), 0);
        due.is("selected() before the first tick", Bench.fresh(0, 0).x.selected(), 0);
    }

    private void selectsByTheLowestBit() {
        due.of("(6) .. and the lowest bit of the K that it accepted is 1 (A's bridge is on), otherwise line 0");
        for (int k = 0; k < 256; k++) {
            Bench bench = Bench.over(0, 0);
            bench.k(k).k(k).k(k);
            due.is("selected() with K " + k, bench.x.selected(), k % 2);
            due.is("request() with K " + k, bench.x.request(), 2);
        }
    }

    private void gapWhenTheSelectedLineIsNotIn() {
        due.of("(7) The frame of the selected line, when that is IN ..; otherwise .. that has a GAP");
        Bench bench = Bench.ready();
        bench.bad(0);
        due.is("sync() with one that is not good", bench.x.sync(), 2);
        bench.bad(0);
        due.is("sync() with two that are not good", bench.x.sync(), 2);
        bench.bad(0);
        due.is("sync() with three: a gap", bench.x.sync(), 0);
        bench.tick(1);
        due.is("sync() when TRIED: a gap", bench.x.sync(), 0);
        due.is("pointer() with two gaps", bench.x.pointer(), 0);
        bench.tick(1);
        due.is("sync() when IN", bench.x.sync(), 2);
    }

    private void gapWhenNothingArrived() {
        due.of("(7) .. and something arrived on it, goes to the POINTER READER; otherwise .. that has a GAP");
        Bench bench = Bench.ready();
        bench.x.cut(0, true);
        bench.tick(1);
        due.is("alignment(0)", bench.x.alignment(0), IN);
        due.is("sync()", bench.x.sync(), 0);
        Bench over = Bench.over(0, 0);
        due.is("sync() on line 1", over.x.sync(), 2);
        over.x.cut(1, true);
        over.tick(1);
        due.is("selected()", over.x.selected(), 1);
        due.is("sync() on line 1 with nothing", over.x.sync(), 0);
    }

    private void gapWhenThePointerByteIs255() {
        due.of("(7) or when its pointer byte (without the row) is 255, that has a GAP");
        for (int x = 0; x < 256; x++) {
            // In a long frame any bytes leave the reader in SYNC, so that only a gap makes it HUNT.
            Bench bench = Bench.synced();
            bench.stream(new Bytes().header(200).raw(0, 0, 0).all());
            bench.pointer(x);
            due.is("sync() with " + x, bench.x.sync(), x == 255 ? 0 : 2);
        }
    }

    private void noGapByTheOtherLine() {
        due.of("(7) The frame of the selected line");
        Bench working = Bench.ready();
        working.x.cut(1, true);
        working.tick(6);
        due.is("sync() on line 0 with line 1 cut", working.x.sync(), 2);
        Bench over = Bench.over(0, 0);
        over.x.cut(0, true);
        over.tick(6);
        due.is("sync() on line 1 with line 0 cut", over.x.sync(), 2);
        due.is("pointer() on line 1 with line 0 cut", over.x.pointer(), 0);
        over.will(1, 4, 255).tick(1);
        due.is("sync() on line 1 with a gap", over.x.sync(), 0);
    }

    private void kOfB() {
        due.of("(8) B sends K on the back line: 16 * its request");
        // A gives the request back in its own K, four ticks after B's first.
        for (int c = 0; c < 4; c++) {
            Bench bench = Bench.ready();
            bench.x.command(c);
            bench.tick(4);
            due.is("K of A for command " + c, bench.plain(1, 3) / 16, new int[] {0, 2, 4, 5}[c]);
        }
        // A request that stands for one tick alone is in one K alone.
        Bench bench = Bench.ready();
        bench.x.command(2);
        bench.tick(1);
        bench.x.command(0);
        bench.tick(8);
        due.is("K of A with one 4 alone", bench.plain(1, 3), 0);
        due.is("bridged()", bench.x.bridged(), false);
    }
}
