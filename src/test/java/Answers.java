/** All that an object can be asked, to see whether two objects are in the same state. */
final class Answers {
    private Answers() {
    }

    static void same(Due due, String what, ProtectedLine x, ProtectedLine y) {
        due.is(what + ": waiting()", x.waiting(), y.waiting());
        due.is(what + ": request()", x.request(), y.request());
        due.is(what + ": bridged()", x.bridged(), y.bridged());
        due.is(what + ": selected()", x.selected(), y.selected());
        due.is(what + ": pointer()", x.pointer(), y.pointer());
        due.is(what + ": pathErrors()", x.pathErrors(), y.pathErrors());
        due.is(what + ": sync()", x.sync(), y.sync());
        due.is(what + ": delivered()", x.delivered(), y.delivered());
        due.is(what + ": dropped()", x.dropped(), y.dropped());
        for (int line = 0; line < 2; line++) {
            due.is(what + ": alignment(" + line + ")", x.alignment(line), y.alignment(line));
            due.is(what + ": errors(" + line + ")", x.errors(line), y.errors(line));
            for (int place = 0; place < 12; place++) {
                due.is(what + ": sent(" + line + ", " + place + ")", x.sent(line, place), y.sent(line, place));
            }
        }
        for (int k = 0; k < 8; k++) {
            for (int i = -1; i < 6; i++) {
                due.is(what + ": got(" + k + ", " + i + ")", x.got(k, i), y.got(k, i));
            }
        }
    }

    /** The same now, and in each of the ticks in which both are told the same things. */
    static void staySame(Due due, String what, ProtectedLine x, ProtectedLine y) {
        same(due, what, x, y);
        for (int i = 0; i < 60; i++) {
            if (i % 4 == 1) {
                due.is(what + ": send", x.send(1 + i % 6, 0x0102_0304_0506L * i), y.send(1 + i % 6, 0x0102_0304_0506L * i));
            }
            if (i % 16 == 5) {
                due.is(what + ": drift", x.drift(i % 32 == 5 ? 3 : -3), y.drift(i % 32 == 5 ? 3 : -3));
            }
            x.tick(1);
            y.tick(1);
            same(due, what + ", " + (i + 1) + " ticks later", x, y);
        }
        // The debt, and the cuts, are seen by what is refused.
        for (int n = 0; n < 17; n++) {
            due.is(what + ": drift(1)", x.drift(1), y.drift(1));
        }
        for (int line = 0; line < 2; line++) {
            due.is(what + ": cut(" + line + ")", x.cut(line, true), y.cut(line, true));
        }
    }
}
