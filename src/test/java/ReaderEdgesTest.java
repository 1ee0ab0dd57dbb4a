/**
 * The pointer reader and the stream reader: one test for each sentence of the document that names a
 * boundary case. Each test begins with the words that it is about.
 */
public final class ReaderEdgesTest {
    private static final int LOST = -1;
    /** x / 64 is 2: never understood, never plain. */
    private static final int STRANGE = 128;

    private final Due due = new Due();

    public static void main(String[] args) {
        ReaderEdgesTest test = new ReaderEdgesTest();
        test.lostAtFirst();
        test.plainIsForZeroToFive();
        test.thirdPlainOneInARow();
        test.noGapBetween();
        test.behindTheFrameWithWhichItBecameLost();
        test.asItIs();
        test.upNeedsTwoBits();
        test.downNeedsTwoBits();
        test.onlyWhenXBy64IsOne();
        test.justifiedPointerGoesRound();
        test.thirdPlainForAnotherQ();
        test.bothRowsBeginAnew();
        test.eighthNotUnderstood();
        test.thirdComesBeforeEighth();
        test.gapsDoNotEndTheRows();
        test.understoodEndsBothRows();
        test.thirdHoldsForThisFrame();
        test.eighthHoldsForThisFrame();
        test.notUnderstoodIsReadAsItWas();
        test.everySixthIsAFirst();
        test.justifiedHasTheVBefore();
        test.pathErrorsOfTheFirstByte();
        test.pathErrorsNotOverAGap();
        test.pathErrorsNotOverLost();
        test.pathErrorsNotOverAThird();
        test.gapMakesHunt();
        test.lostFrameMakesHunt();
        test.gapMakesHuntAnew();
        test.brokenOffIsNeither();
        test.thirdGapInARow();

        test.huntAtFirst();
        test.headersAndNone();
        test.anyTwoBytesInHunt();
        test.lengthIsPassedOver();
        test.presyncNeedsAHeader();
        test.presyncRepairsNothing();
        test.huntBehindPresync();
        test.oneBitIsRepaired();
        test.repairedLengthCounts();
        test.twoBitsAreNot();
        test.huntBehindSync();
        test.headerThatLedToSync();
        test.scramblingBeforeTheFirst();
        test.scramblingOverPresync();
        test.scramblingNotOverHunt();
        test.lengthsOfClientFrames();
        test.lengthOneIsDropped();
        test.lengthZeroIsNothing();
        test.lengthAboveSevenIsDropped();
        test.checkOfTheOthers();
        test.due.end("ReaderEdgesTest");
    }

    private void pointerIs(String what, Bench bench, int want) {
        due.is("pointer() " + what, bench.x.pointer(), want);
    }

    private void syncIs(String what, Bench bench, int want) {
        due.is("sync() " + what, bench.x.sync(), want);
    }

    private void counts(String what, Bench bench, int delivered, int dropped) {
        due.is("delivered() " + what, bench.x.delivered(), delivered);
        due.is("dropped() " + what, bench.x.dropped(), dropped);
    }

    /** A new object with both lines just IN in the next tick: the first frame for the pointer reader. */
    private static Bench first() {
        return Bench.fresh(0, 0).tick(2);
    }

    private static int plainFor(int x) {
        return x >= 64 && x <= 109 && (x - 64) % 9 == 0 ? (x - 64) / 9 : LOST;
    }

    private void lostAtFirst() {
        due.of("THE POINTER READER is LOST (at first)");
        Bench bench = Bench.fresh(0, 0);
        pointerIs("before the first tick", bench, LOST);
        for (int tick = 1; tick <= 4; tick++) {
            pointerIs("in tick " + tick, bench.tick(1), LOST);
        }
        pointerIs("in tick 5", bench.tick(1), 0);
    }

    private void plainIsForZeroToFive() {
        due.of("A pointer byte x is PLAIN, for q, when it is 64 + 9 * q, q 0 .. 5");
        for (int x = 0; x < 256; x++) {
            pointerIs("with three " + x, first().pointers(3, x), plainFor(x));
        }
    }

    private void thirdPlainOneInARow() {
        due.of("LOST: with the third plain one in a row .. for the same q .. v is that");
        for (int q = 0; q < 6; q++) {
            int x = 64 + 9 * q;
            pointerIs("with two for " + q, first().pointers(2, x), LOST);
            pointerIs("with three for " + q, first().pointers(3, x), q);
            int other = 64 + 9 * ((q + 1) % 6);
            Bench bench = first().pointers(2, x).pointer(other).pointers(2, x);
            pointerIs("with one for another between", bench, LOST);
            pointerIs("with the third behind that", bench.pointer(x), q);
            Bench strange = first().pointers(2, x).pointer(STRANGE).pointers(2, x);
            pointerIs("with one that is not plain between", strange, LOST);
            pointerIs("with the third behind that", strange.pointer(x), q);
            Bench switched = first().pointers(2, x).pointers(2, other);
            pointerIs("with two for each", switched, LOST);
            pointerIs("with the third for the other", switched.pointer(other), (q + 1) % 6);
        }
    }

    private void noGapBetween() {
        due.of("(no gap between)");
        for (int before = 1; before <= 2; before++) {
            Bench bench = first().pointers(before, 64).pointer(Bench.GAP).pointers(2, 64);
            pointerIs("with a gap behind " + before, bench, LOST);
            pointerIs("with three behind the gap", bench.pointer(64), 0);
            Bench cut = first().pointers(before, 64);
            cut.x.cut(0, true);
            cut.tick(1);
            cut.x.cut(0, false);
            pointerIs("with nothing behind " + before, cut.pointers(2, 64), LOST);
            pointerIs("with three behind that", cut.pointer(64), 0);
        }
    }

    private void behindTheFrameWithWhichItBecameLost() {
        due.of("of those that come behind the frame with which it became LOST");
        for (int plain = 1; plain <= 2; plain++) {
            Bench bench = Bench.ready().pointers(8 - plain, STRANGE).pointers(plain, 73);
            pointerIs("with the eighth", bench, LOST);
            pointerIs("with two behind it", bench.pointers(2, 73), LOST);
            pointerIs("with three behind it", bench.pointer(73), 1);
        }
        Bench gaps = Bench.ready().pointers(2, 73).pointers(3, Bench.GAP);
        pointerIs("with the third gap", gaps, LOST);
        pointerIs("with two behind it", gaps.pointers(2, 73), LOST);
        pointerIs("with three behind it", gaps.pointer(73), 1);
    }

    /** The pointer is v, at A and at B, and no frame of the latest four was justified. */
    private static Bench withPointer(int v) {
        Bench bench = Bench.ready();
        bench.x.drift(v);
        return bench.tick(28);
    }

    private void asItIs() {
        due.of("with d 0, as it is");
        for (int v = 0; v < 6; v++) {
            Bench bench = withPointer(v);
            pointerIs("of " + v, bench, v);
            pointerIs("of " + v, bench.pointer(64 + 9 * v), v);
            due.is("pathErrors()", bench.x.pathErrors(), 0);
            syncIs("of " + v, bench, 2);
        }
    }

    private void upNeedsTwoBits() {
        due.of("with at least two of the bits 1, 4, 16 and at most one of 2, 8, 32 in d: .. v is one more from the next frame on");
        int[] up = {5, 17, 20, 21};
        int[] one = {0, 2, 8, 32};
        int[] two = {10, 34, 40, 42};
        for (int v = 0; v < 6; v++) {
            for (int bits : up) {
                for (int more : one) {
                    pointerIs(v + " with d " + (bits + more), withPointer(v).pointer(64 + 9 * v ^ bits + more), (v + 1) % 6);
                }
                for (int more : two) {
                    pointerIs(v + " with d " + (bits + more), withPointer(v).pointer(64 + 9 * v ^ bits + more), v);
                }
            }
            for (int bits : new int[] {1, 4, 16}) {
                for (int more : one) {
                    pointerIs(v + " with d " + (bits + more), withPointer(v).pointer(64 + 9 * v ^ bits + more), v);
                }
            }
        }
    }

    private void downNeedsTwoBits() {
        due.of("with at least two of 2, 8, 32 and at most one of 1, 4, 16: as for a debt below 0, v is one less");
        for (int v = 0; v < 6; v++) {
            for (int bits : new int[] {10, 34, 40, 42}) {
                for (int more : new int[] {0, 1, 4, 16}) {
                    pointerIs(v + " with d " + (bits + more), withPointer(v).pointer(64 + 9 * v ^ bits + more), (v + 5) % 6);
                }
            }
            for (int bits : new int[] {2, 8, 32}) {
                pointerIs(v + " with d " + bits, withPointer(v).pointer(64 + 9 * v ^ bits), v);
            }
        }
    }

    private void onlyWhenXBy64IsOne() {
        due.of("when x / 64 is 1 .. otherwise, also when x / 64 is not 1, it is not UNDERSTOOD");
        for (int high : new int[] {0, 128, 192}) {
            for (int low : new int[] {0, 21, 42, 9}) {
                if (high + low == Bench.GAP) {
                    continue;
                }
                Bench bench = Bench.ready().pointers(7, high + low);
                pointerIs("with seven " + (high + low), bench, 0);
                pointerIs("with eight " + (high + low), bench.pointer(high + low), LOST);
            }
        }
        for (int v = 0; v < 6; v++) {
            for (int x = 0; x < 255; x++) {
                if (x / 64 != 1) {
                    pointerIs(v + " with one " + x, withPointer(v).pointer(x), v);
                }
            }
        }
        pointerIs("with one 127, where d is 63", Bench.ready().pointer(127), 0);
        pointerIs("with eight 127", Bench.ready().pointers(8, 127), LOST);
    }

    private void justifiedPointerGoesRound() {
        due.of("v is one more .. v is one less: (0 after 5), (5 after 0)");
        Bench up = Bench.ready();
        Bench down = Bench.ready();
        for (int i = 1; i <= 13; i++) {
            up.pointer(64 + (9 * up.x.pointer() ^ 21));
            pointerIs("up " + i, up, i % 6);
            down.pointer(64 + (9 * down.x.pointer() ^ 42));
            pointerIs("down " + i, down, Math.floorMod(-i, 6));
        }
    }

    private void thirdPlainForAnotherQ() {
        due.of("with the third one in a row that is plain for the same other q, v is that");
        for (int v = 0; v < 6; v++) {
            for (int q = 0; q < 6; q++) {
                Bench bench = withPointer(v).pointers(2, 64 + 9 * q);
                pointerIs(v + " with two for " + q, bench, v);
                pointerIs(v + " with three for " + q, bench.pointer(64 + 9 * q), q);
            }
        }
        pointerIs("with 1, 1, 2, 1, 1", Bench.ready().pointers(2, 73).pointer(82).pointers(2, 73), 0);
        pointerIs("with 1, 1, 2, 2, 2", Bench.ready().pointers(2, 73).pointers(3, 82), 2);
        pointerIs("with 1, 1, none, 1, 1", Bench.ready().pointers(2, 73).pointer(STRANGE).pointers(2, 73), 0);
        pointerIs("with 1, 1, none, 1, 1, 1", Bench.ready().pointers(2, 73).pointer(STRANGE).pointers(3, 73), 1);
        // 64 + 9 * 6 and 64 + 9 * 7 are not plain, nor is what is not 64 and something.
        for (int x : new int[] {9, 118, 127, 137, 201}) {
            pointerIs("with three " + x, Bench.ready().pointers(3, x), 0);
        }
    }

    private void bothRowsBeginAnew() {
        due.of("(and both rows begin anew)");
        Bench eight = Bench.ready().pointers(4, STRANGE).pointers(3, 73);
        pointerIs("behind seven", eight, 1);
        pointerIs("behind seven more", eight.pointers(7, STRANGE), 1);
        pointerIs("behind eight more", eight.pointer(STRANGE), LOST);
        Bench three = Bench.ready().pointers(3, 73).pointers(2, 82);
        pointerIs("with two for 2 behind three for 1", three, 1);
        pointerIs("with three for 2", three.pointer(82), 2);
        Bench back = Bench.ready().pointers(3, 73).pointers(2, 64);
        pointerIs("with two back", back, 1);
        pointerIs("with three back", back.pointer(64), 0);
    }

    private void eighthNotUnderstood() {
        due.of("otherwise with the eighth in a row that is not understood, LOST");
        Bench bench = Bench.ready();
        int[] strange = {0, 65, 73, 67, 192, 82, 254, 82};
        for (int i = 0; i < 8; i++) {
            pointerIs("before " + (i + 1), bench, 0);
            bench.pointer(strange[i]);
        }
        pointerIs("with the eighth", bench, LOST);
    }

    private void thirdComesBeforeEighth() {
        due.of("with the third one ..; otherwise with the eighth");
        Bench bench = Bench.ready().pointers(5, STRANGE).pointers(3, 91);
        pointerIs("with a third that is the eighth", bench, 3);
        pointerIs("behind seven more", bench.pointers(7, STRANGE), 3);
        pointerIs("behind eight more", bench.pointer(STRANGE), LOST);
    }

    private void gapsDoNotEndTheRows() {
        due.of("(Gaps do not end these two rows, and are none of them");
        for (int gaps = 1; gaps <= 2; gaps++) {
            Bench three = Bench.ready();
            for (int i = 0; i < 3; i++) {
                pointerIs("before frame " + i, three, 0);
                three.pointers(gaps, Bench.GAP);
                pointerIs("behind the gaps before frame " + i, three, 0);
                three.pointer(100);
            }
            pointerIs("with the third", three, 4);
            Bench eight = Bench.ready();
            for (int i = 0; i < 8; i++) {
                eight.pointers(gaps, Bench.GAP);
                pointerIs("before the " + (i + 1) + "th", eight, 0);
                eight.pointer(STRANGE);
            }
            pointerIs("with the eighth", eight, LOST);
        }
    }

    private void understoodEndsBothRows() {
        due.of("a frame that is understood ends both.)");
        Bench plain = Bench.ready().pointers(2, 73).pointer(64).pointers(2, 73);
        pointerIs("with two, d 0, two", plain, 0);
        pointerIs("and a third", plain.pointer(73), 1);
        Bench seven = Bench.ready().pointers(7, STRANGE).pointer(64).pointers(7, STRANGE);
        pointerIs("with seven, d 0, seven", seven, 0);
        pointerIs("and an eighth", seven.pointer(STRANGE), LOST);
        for (int flip : new int[] {21, 42}) {
            int v = flip == 21 ? 1 : 5;
            Bench justified = Bench.ready().pointers(2, 91).pointer(64 ^ flip).pointers(2, 91);
            pointerIs("with two, justified, two", justified, v);
            pointerIs("and a third", justified.pointer(91), 3);
            Bench many = Bench.ready().pointers(7, STRANGE).pointer(64 ^ flip).pointers(7, STRANGE);
            pointerIs("with seven, justified, seven", many, v);
            pointerIs("and an eighth", many.pointer(STRANGE), LOST);
        }
    }

    /** Makes the next frame's bytes 6 .. 11 these. */
    private static Bench bytes(Bench bench, int... six) {
        for (int i = 0; i < 6; i++) {
            bench.will(0, 6 + i, six[i]);
        }
        return bench;
    }

    /** Makes the next frame's bytes 6 .. 11 zeros but for one. */
    private static Bench zerosBut(Bench bench, int place, int value) {
        for (int other = 6; other < 12; other++) {
            bench.will(0, other, other == place ? value : 0);
        }
        return bench;
    }

    private static Bench zeros(Bench bench) {
        return bytes(bench, 0, 0, 0, 0, 0, 0);
    }

    private void thirdHoldsForThisFrame() {
        due.of("What the third, or the eighth, changes holds for this frame");
        for (int q = 1; q < 6; q++) {
            // Two frames of bytes 0, the first bytes among them; only the second first byte is 15.
            Bench bench = Bench.ready().pointers(2, 64 + 9 * q);
            zeros(bench).pointer(64 + 9 * q);
            due.is("pathErrors() with the third for " + q, bench.x.pathErrors(), 0);
            zerosBut(bench, 6 + q, 15).pointer(64 + 9 * q);
            due.is("pathErrors() behind the third for " + q, bench.x.pathErrors(), 4);
        }
        // A LOST reader reads the third plain one too.
        Bench found = first().pointers(2, 64);
        zeros(found).pointer(64);
        bytes(found, 7, 0, 0, 0, 0, 0).pointer(64);
        due.is("pathErrors() behind the third when LOST", found.x.pathErrors(), 3);
        Bench synced = first().pointers(2, 64);
        syncIs("before the third", synced, 0);
        syncIs("with the third", synced.pointer(64), 2);
    }

    private void eighthHoldsForThisFrame() {
        due.of("What .. the eighth, changes holds for this frame");
        Bench bench = Bench.ready().pointers(7, STRANGE);
        syncIs("with seven", bench, 2);
        bytes(bench, 0, 255, 0, 0, 0, 0).pointer(STRANGE);
        syncIs("with the eighth", bench, 0);
        due.is("pathErrors() with the eighth", bench.x.pathErrors(), 0);
    }

    private void notUnderstoodIsReadAsItWas() {
        due.of("When it has v (then), the frame's bytes, 6 .. 11, .. are read");
        Bench bench = Bench.synced();
        int[] stream = new Bytes().frame(9).idle().idle().frame(8, 7).idle().idle().inFives();
        for (int i = 0; i < stream.length; i++) {
            bench.will(0, 7 + i % 5, stream[i]);
            if (i % 5 == 4) {
                bench.pointer(STRANGE + i);
            }
        }
        counts("in frames that are not understood", bench, 2, 0);
        Bench single = Bench.ready();
        zeros(single).pointer(STRANGE);
        int before = single.x.pathErrors();
        bytes(single, 3, 0, 0, 0, 0, 0).pointer(STRANGE);
        due.is("pathErrors() in them", single.x.pathErrors() - before, 2);
    }

    private void everySixthIsAFirst() {
        due.of("the v-th of them (from 0), and from there every sixth, is the first of a container");
        // Seven bytes with v 0: places 5 and 11 are first ones.
        for (int v = 0; v < 6; v++) {
            Bench bench = withPointer(v);
            zeros(bench).pointer(64 + 9 * v);
            int before = bench.x.pathErrors();
            zerosBut(bench, 5 + v, 1).will(0, 5, v == 0 ? 1 : 0).pointer(64 + (9 * v ^ 42));
            // With v 0 the second first byte, place 11, is not the 1 of the first one.
            due.is("pathErrors() with seven bytes, v " + v, bench.x.pathErrors() - before, v == 0 ? 2 : 1);
        }
        // Five bytes with v 5: none of them is a first one.
        for (int v = 0; v < 6; v++) {
            Bench bench = withPointer(v);
            zeros(bench).pointer(64 + 9 * v);
            int before = bench.x.pathErrors();
            bytes(bench, 255, 1, 1, 1, 1, 1).pointer(64 + (9 * v ^ 21));
            // The first byte has 1; before it in this frame there are v ones.
            int want = v == 5 ? 0 : v % 2 == 0 ? 1 : 0;
            due.is("pathErrors() with five bytes, v " + v, bench.x.pathErrors() - before, want);
        }
    }

    private void justifiedHasTheVBefore() {
        due.of("(The v that holds for the frame: of a justified one that before the change.)");
        for (int v = 0; v < 5; v++) {
            for (int place = 7; place < 12; place++) {
                Bench bench = withPointer(v);
                zeros(bench).pointer(64 + 9 * v);
                int before = bench.x.pathErrors();
                // Only in the v-th of five a bit is seen at once, or in one before it, which the v-th should have.
                zerosBut(bench, place, 1).pointer(64 + (9 * v ^ 21));
                due.is("pathErrors() at place " + place + ", v " + v, bench.x.pathErrors() - before, place <= 7 + v ? 1 : 0);
            }
        }
    }

    private void pathErrorsOfTheFirstByte() {
        due.of("With each first byte that is the sixth behind another first byte .. its bits that are not those of the six bytes before it (the other first byte included)");
        for (int place = 5; place < 12; place++) {
            Bench bench = Bench.ready();
            bench.x.damage(0, place, 0x37);
            bench.tick(1);
            due.is("pathErrors() of place " + place, bench.x.pathErrors(), place == 6 ? 5 : 0);
            bench.tick(1);
            due.is("pathErrors() of place " + place + " a tick later", bench.x.pathErrors(),
                place == 5 ? 0 : place == 6 ? 10 : 5);
            bench.tick(4);
            due.is("pathErrors() of place " + place + " no more", bench.x.pathErrors(), place == 5 ? 0 : place == 6 ? 10 : 5);
        }
        // The very first first byte is behind no other.
        Bench found = first().pointers(2, 64);
        found.x.damage(0, 6, 255);
        found.tick(1);
        pointerIs("found", found, 0);
        due.is("pathErrors() of the first of all", found.x.pathErrors(), 0);
        found.tick(1);
        due.is("pathErrors() of the second of all", found.x.pathErrors(), 8);
    }

    private void pathErrorsNotOverAGap() {
        due.of("where no gap was between");
        for (int v = 0; v < 6; v++) {
            Bench bench = withPointer(v);
            zeros(bench).pointer(64 + 9 * v);
            int before = bench.x.pathErrors();
            bench.pointer(Bench.GAP);
            bytes(bench, 255, 255, 255, 255, 255, 255).pointer(64 + 9 * v);
            due.is("pathErrors() behind a gap, v " + v, bench.x.pathErrors(), before);
            zeros(bench).pointer(64 + 9 * v);
            // Six - v of 255 behind that gap and v of 0.
            due.is("pathErrors() behind that, v " + v, bench.x.pathErrors() - before, (6 - v) % 2 == 1 ? 8 : 0);
        }
    }

    private void pathErrorsNotOverLost() {
        due.of("no frame while LOST");
        Bench bench = Bench.ready().pointers(7, STRANGE);
        zeros(bench).pointer(STRANGE);
        bench.pointers(2, 64);
        bytes(bench, 255, 0, 0, 0, 0, 0).pointer(64);
        pointerIs("found again", bench, 0);
        due.is("pathErrors() with the first behind LOST", bench.x.pathErrors(), 0);
        zeros(bench).pointer(64);
        due.is("pathErrors() with the second behind LOST", bench.x.pathErrors(), 8);
    }

    private void pathErrorsNotOverAThird() {
        due.of("and v was not changed by a third plain one between");
        for (int v = 0; v < 6; v++) {
            for (int q = 0; q < 6; q++) {
                Bench bench = withPointer(v).pointers(2, 64 + 9 * q);
                int before = bench.x.pathErrors();
                bytes(bench, 255, 255, 255, 255, 255, 255).pointer(64 + 9 * q);
                // With q = v nothing is changed, and the first byte is judged.
                if (q != v) {
                    due.is("pathErrors() with the third, " + v + " to " + q, bench.x.pathErrors(), before);
                }
                int behind = bench.x.pathErrors();
                zeros(bench).pointer(64 + 9 * q);
                due.is("pathErrors() behind it, " + v + " to " + q, bench.x.pathErrors() - behind, (6 - q) % 2 == 1 ? 8 : 0);
            }
        }
    }

    private void gapMakesHunt() {
        due.of("A gap .. makes the stream reader HUNT");
        syncIs("with a gap", Bench.ready().pointer(Bench.GAP), 0);
        Bench presync = Bench.hunting().stream(new Bytes().header(200).raw(0, 0, 0).all());
        syncIs("in PRESYNC", presync, 1);
        syncIs("in PRESYNC with a gap", presync.pointer(Bench.GAP), 0);
    }

    private void lostFrameMakesHunt() {
        due.of("and a frame that comes while LOST, makes the stream reader HUNT");
        Bench bench = Bench.ready().pointers(8, STRANGE);
        syncIs("LOST", bench, 0);
        syncIs("with another frame", bench.pointer(64), 0);
        syncIs("with two", bench.pointer(64), 0);
        syncIs("with the third plain one", bench.pointer(64), 2);
    }

    private void gapMakesHuntAnew() {
        due.of("(anew, if it was in HUNT");
        Bytes bytes = new Bytes().raw(0, 0, 0, 0).header(40).raw(0, 0, 0, 0);
        Bench whole = Bench.hunting().stream(bytes.all());
        syncIs("with a header over two frames", whole, 1);
        Bench torn = Bench.hunting();
        torn.stream(0, 0, 0, 0, bytes.all()[4]);
        torn.pointer(Bench.GAP);
        torn.stream(bytes.all()[5], 0, 0, 0, 0);
        syncIs("with a gap in that header", torn, 0);
    }

    private void brokenOffIsNeither() {
        due.of("a frame of a client that is broken off so is neither delivered nor dropped)");
        int[] stream = new Bytes().frame(1, 2, 3, 4, 5, 6).idle().idle().idle().inFives();
        for (int broken = 0; broken < 2; broken++) {
            Bench bench = Bench.synced().stream(stream[0], stream[1], stream[2], stream[3], stream[4]);
            if (broken == 1) {
                bench.pointer(Bench.GAP);
            }
            bench.stream(stream[5], stream[6], stream[7], stream[8], stream[9]);
            counts("with broken " + broken, bench, 1 - broken, 0);
        }
    }

    private void thirdGapInARow() {
        due.of("With the third gap in a row it is LOST");
        Bench bench = Bench.ready();
        for (int i = 0; i < 3; i++) {
            bench.pointers(2, Bench.GAP);
            pointerIs("with two gaps", bench, 0);
            bench.pointer(i == 0 ? 64 : i == 1 ? STRANGE : 73);
            pointerIs("with a frame behind them", bench, 0);
        }
        bench.pointers(2, Bench.GAP);
        bench.x.cut(0, true);
        pointerIs("with the third", bench.tick(1), LOST);
        bench.x.cut(0, false);
        pointerIs("with two frames", bench.tick(2), LOST);
        pointerIs("with three frames", bench.tick(1), 0);
    }

    private void huntAtFirst() {
        due.of("THE STREAM READER is in HUNT (0, at first), PRESYNC (1) or SYNC (2)");
        Bench bench = Bench.fresh(0, 0);
        for (int tick = 0; tick < 5; tick++) {
            syncIs("before tick " + (tick + 1), bench, 0);
            bench.tick(1);
        }
        syncIs("behind tick 5", bench, 2);
    }

    private void headersAndNone() {
        due.of("Two bytes b, e are a HEADER when H(b ^ 182) is e ^ 171; its L is b ^ 182");
        for (int l = 2; l < 256; l++) {
            int[] header = new Bytes().header(l).all();
            // What comes before must be no header with its first byte.
            int f = (header[0] ^ 171) == Model.h(182) ? 1 : 0;
            syncIs("with a header for " + l, Bench.hunting().stream(f, f, f, header[0], header[1]), 1);
            syncIs("with its second byte wrong", Bench.hunting().stream(f, f, f, header[0], header[1] ^ 1 << l % 8), 0);
        }
    }

    private void anyTwoBytesInHunt() {
        due.of("HUNT: the first two bytes given to it one behind the other since HUNT began that are a header");
        int[] header = new Bytes().header(100).all();
        for (int at = 0; at < 4; at++) {
            int[] bytes = new int[5];
            bytes[at] = header[0];
            bytes[at + 1] = header[1];
            syncIs("with a header at " + at, Bench.hunting().stream(bytes), 1);
        }
        // A first byte that is followed by itself, and a header that begins in a false one.
        syncIs("with the first byte twice", Bench.hunting().stream(0, header[0], header[0], header[1], 0), 1);
        syncIs("with no header", Bench.hunting().stream(0, header[0], 0, header[1], 0), 0);
        // Behind HUNT's begin: its first byte and the one before are not two.
        Bench bench = Bench.synced();
        bench.stream(new Bytes().idle().raw(182 ^ 3, 182 ^ 5, 0).all());
        syncIs("behind a broken header", bench, 0);
    }

    /** Behind a header for l in HUNT its bytes are passed over, then idles lead to SYNC. */
    private void lengthIsPassedOver() {
        due.of("PRESYNC, and its L bytes are passed over");
        for (int l : new int[] {0, 1, 2, 7, 8, 100, 254, 255}) {
            // Idles among the L bytes would lead to SYNC if they were not passed over.
            Bytes bytes = new Bytes().raw(new int[(2 * 255 - 2 - l) % 5]).header(l);
            for (int i = 0; i < l; i++) {
                bytes.raw(i % 2 == 0 ? 182 : 171);
            }
            Bench bench = Bench.hunting().stream(bytes.all());
            syncIs("behind " + l + " bytes", bench, 1);
            bench.stream(new Bytes().frame(1).idle().idle().idle().all());
            syncIs("behind a header", bench, 2);
            counts("behind a header, l " + l, bench, l == 0 ? 1 : 0, l == 0 ? 0 : 1);
        }
    }

    private void presyncNeedsAHeader() {
        due.of("PRESYNC: then the next two bytes: when they are a header, SYNC; otherwise HUNT");
        int[] header = new Bytes().header(3).all();
        Bench good = Bench.hunting().stream(0, 182, 171, header[0], header[1]);
        syncIs("with a header", good, 2);
        Bench none = Bench.hunting().stream(0, 182, 171, header[0], header[1] ^ 255);
        syncIs("with none", none, 0);
        Bench half = Bench.hunting().stream(0, 0, 182, 171, header[0]);
        syncIs("with the first byte alone", half, 1);
    }

    private void presyncRepairsNothing() {
        due.of("SYNC: .. are made one by changing the one bit (in SYNC alone)");
        for (int bit = 0; bit < 16; bit++) {
            int b = 182 ^ (bit < 8 ? 1 << bit : 0);
            int e = 171 ^ (bit < 8 ? 0 : 1 << bit - 8);
            syncIs("in PRESYNC, bit " + bit, Bench.hunting().stream(0, 182, 171, b, e), 0);
            syncIs("in HUNT, bit " + bit, Bench.hunting().stream(0, b, e, 0, 0), 0);
        }
    }

    private void huntBehindPresync() {
        due.of("otherwise HUNT begins behind them");
        int[] header = new Bytes().header(50).all();
        // The second of the two bytes and the next one would be a header.
        Bench bench = Bench.hunting().stream(182, 171, 0, header[0], header[1]);
        syncIs("with a header that begins with the second byte", bench, 0);
        Bench next = Bench.hunting().stream(182, 171, 0, 0, header[0]).stream(header[1], 0, 0, 0, 0);
        syncIs("with a header right behind them", next, 1);
    }

    private void oneBitIsRepaired() {
        due.of("SYNC: behind each frame the next two bytes, if they are no header, are made one by changing the one bit of them that does so");
        for (int l = 0; l < 8; l++) {
            for (int bit = 0; bit < 16; bit++) {
                int[] data = new int[Math.max(l - 1, 0)];
                Bytes bytes = l == 0 ? new Bytes().idle() : l == 1 ? new Bytes().header(1).scrambled(255) : new Bytes().frame(data);
                // The header's first byte is l + 1 behind the last one.
                bytes.flip(bit < 8 ? l + 1 : l, 1 << bit % 8);
                Bench bench = Bench.synced().stream(bytes.idle().frame(1).inFives());
                syncIs("with L " + l + ", bit " + bit, bench, 2);
                counts("with L " + l + ", bit " + bit, bench, l >= 2 ? 2 : 1, l == 1 ? 1 : 0);
            }
        }
    }

    private void repairedLengthCounts() {
        due.of("are made one by changing the one bit of them that does so");
        // An idle with bit 2 of its second byte is an idle; a header for 2 without the bit of L is one for 2.
        Bytes bytes = new Bytes().idle().flip(0, 4).frame(5).flip(3, 2).frame(6).flip(2, 128);
        Bench bench = Bench.synced().stream(bytes.inFives());
        counts("with three repaired headers", bench, 2, 0);
        due.is("got(1, 0)", bench.x.got(1, 0), 5);
        due.is("got(0, 0)", bench.x.got(0, 0), 6);
    }

    private void twoBitsAreNot() {
        due.of("if there is one (there are never two); otherwise HUNT begins behind them");
        for (int one = 0; one < 16; one++) {
            for (int other = 0; other < one; other++) {
                int b = 182 ^ ((1 << one | 1 << other) & 255);
                int e = 171 ^ (1 << one | 1 << other) >> 8;
                Bench bench = Bench.synced().stream(182, 171, b, e, 0);
                syncIs("with bits " + one + " and " + other, bench, 0);
            }
        }
        // Of all two bytes those that one bit, or none, makes a header of.
        boolean[] near = new boolean[65536];
        for (int l = 0; l < 256; l++) {
            int header = (l ^ 182) << 8 | Model.h(l) ^ 171;
            near[header] = true;
            for (int bit = 0; bit < 16; bit++) {
                near[header ^ 1 << bit] = true;
            }
        }
        for (int both = 0; both < 65536; both++) {
            Bench bench = Bench.synced().stream(182, 171, both >> 8, both & 255, 182);
            syncIs("with " + (both >> 8) + " and " + (both & 255), bench, near[both] ? 2 : 0);
        }
    }

    private void huntBehindSync() {
        due.of("otherwise HUNT begins behind them (in SYNC)");
        int[] header = new Bytes().header(50).all();
        Bench bench = Bench.synced().stream(182, 171, 0, header[0], header[1]);
        syncIs("with a header that begins with the second byte", bench, 0);
        Bench next = Bench.synced().stream(182, 171, 0, 0, header[0]);
        syncIs("with the first byte of one", next, 0);
        syncIs("with a header right behind them", next.stream(header[1], 0, 0, 0, 0), 1);
    }

    private void headerThatLedToSync() {
        due.of("The L bytes behind a header in SYNC (that which led to SYNC included)");
        Bench bench = Bench.hunting().stream(new Bytes().idle().frame(4, 5, 6).idle().inFives());
        counts("with the frame behind the second header", bench, 1, 0);
        due.is("got(0, 1)", bench.x.got(0, 1), 5);
        Bench passed = Bench.hunting().stream(new Bytes().frame(4, 5, 6).idle().idle().inFives());
        counts("with the frame behind the first header", passed, 0, 0);
        Bench dropped = Bench.hunting().stream(new Bytes().idle().frame(4, 5, 6).flip(0, 1).idle().inFives());
        counts("with a wrong check", dropped, 0, 1);
    }

    private void scramblingBeforeTheFirst() {
        due.of("with the scrambling undone (each ^ the one before it, ..; 0 before the first)");
        Bench bench = Bench.synced().stream(new Bytes().frame(0x91).idle().inFives());
        counts("with the first of all", bench, 1, 0);
        due.is("got(0, 0)", bench.x.got(0, 0), 0x91);
    }

    private void scramblingOverPresync() {
        due.of("in this way read in SYNC or passed over in PRESYNC");
        Bench bench = Bench.hunting().stream(new Bytes().frame(7, 8).frame(9).frame(10, 11).inFives());
        counts("behind a frame that was passed over", bench, 2, 0);
        due.is("got(1, 0)", bench.x.got(1, 0), 9);
        // Idles and headers between are not in it; a frame that was dropped is.
        Bench dropped = Bench.synced().stream(new Bytes().frame(1, 2).flip(1, 64).idle().frame(3).inFives());
        counts("behind a frame that was dropped", dropped, 1, 1);
        due.is("got(0, 0)", dropped.x.got(0, 0), 3);
        Bench last = Bench.synced().stream(new Bytes().frame(1, 2).flip(0, 64).idle().frame(3).inFives());
        counts("behind a wrong last byte", last, 0, 2);
    }

    private void scramblingNotOverHunt() {
        due.of("each ^ the one before it, in this way read in SYNC or passed over in PRESYNC (not what came in HUNT)");
        Bytes first = new Bytes().frame(7, 8);
        Bench bench = Bench.synced().stream(first.all());
        bench.pointer(Bench.GAP);
        bench.stream(1, 2, 3, 4, 5);
        syncIs("in HUNT", bench, 0);
        // The rest of what A would send: an idle, and a frame that is scrambled with the one before HUNT.
        int[] both = new Bytes().frame(7, 8).idle().frame(9).all();
        Bytes tail = new Bytes().raw(java.util.Arrays.copyOfRange(both, first.all().length, both.length));
        bench.stream(tail.inFives());
        counts("behind HUNT", bench, 2, 0);
    }

    private void lengthsOfClientFrames() {
        due.of("are a client frame, when L is 2 .. 7 and the last is the CHECK of the others: it is DELIVERED");
        for (int n = 1; n <= 12; n++) {
            int[] data = new int[n];
            for (int i = 0; i < n; i++) {
                data[i] = 17 * (i + 1);
            }
            Bench bench = Bench.synced().stream(new Bytes().frame(data).inFives());
            counts("with L " + (n + 1), bench, n <= 6 ? 1 : 0, n <= 6 ? 0 : 1);
            due.is("got(0, -1)", bench.x.got(0, -1), n <= 6 ? n : -1);
            for (int i = 0; i < 6; i++) {
                due.is("got(0, " + i + ")", bench.x.got(0, i), i < n && n <= 6 ? data[i] : -1);
            }
        }
    }

    private void lengthOneIsDropped() {
        due.of("other frames with L above 0 are DROPPED (L 1)");
        for (int b = 0; b < 256; b++) {
            Bench bench = Bench.synced().stream(new Bytes().header(1).raw(b).idle().all());
            counts("with L 1 and " + b, bench, 0, 1);
            syncIs("behind L 1", bench, 2);
        }
    }

    private void lengthZeroIsNothing() {
        due.of("other frames with L above 0 are DROPPED (not L 0)");
        Bench bench = Bench.synced().stream(new Bytes().idle().idle().idle().idle().idle().all());
        counts("with idles", bench, 0, 0);
        syncIs("behind idles", bench, 2);
    }

    private void lengthAboveSevenIsDropped() {
        due.of("other frames with L above 0 are DROPPED (L 8 .. 255)");
        for (int l = 8; l < 256; l++) {
            int[] data = new int[l - 1];
            for (int i = 0; i < data.length; i++) {
                data[i] = i * 7 & 255;
            }
            int[] bytes = new Bytes().frame(data).inFives();
            Bench bench = Bench.synced();
            bench.stream(java.util.Arrays.copyOf(bytes, (l + 1) / 5 * 5));
            counts("before the last of " + l, bench, 0, 0);
            bench.stream(java.util.Arrays.copyOfRange(bytes, (l + 1) / 5 * 5, bytes.length));
            counts("with L " + l, bench, 0, 1);
            syncIs("behind L " + l, bench, 2);
        }
    }

    private void checkOfTheOthers() {
        due.of("the last is the CHECK of the others");
        for (int n = 1; n <= 6; n++) {
            for (int wrong = 0; wrong <= n; wrong++) {
                for (int bit = 0; bit < 8; bit++) {
                    Bytes bytes = new Bytes().frame(new int[n]).flip(wrong, 1 << bit);
                    Bench bench = Bench.synced().stream(bytes.inFives());
                    counts("with " + n + " bytes, bit " + bit + " of the " + wrong + "th from behind wrong", bench, 0, 1);
                }
            }
        }
    }
}
