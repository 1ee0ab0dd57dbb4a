import java.util.Arrays;

/**
 * A protected transport line from node A to node B: client frames become a stream, the stream
 * goes into containers that float in scrambled line frames on two lines, and B finds it all again.
 */
public final class ProtectedLine {
    private static final int MOST_TICKS = 40;
    private static final int PLACES = 12;
    private static final int CONTAINER = 6;

    private static final int NONE = -1;

    private final StreamSource source;
    private final NodeA nodeA;
    private final Line working;
    private final Line protection;
    private final BackLine back;
    private final Switch nodeB;
    private final StreamReader stream;
    private final PointerReader reader;

    public ProtectedLine(int working, int protection, int hold, int wait) {
        StreamSource clientFrames = new StreamSource();
        this.source = clientFrames;
        this.nodeA = new NodeA(new ContainerSource(clientFrames));
        this.working = new Line(delayOf(working));
        this.protection = new Line(delayOf(protection));
        this.back = new BackLine(delayOf(protection));
        this.nodeB = new Switch(hold & 7, wait & 7);
        StreamReader streamReader = new StreamReader();
        this.stream = streamReader;
        this.reader = new PointerReader(streamReader);
    }

    public boolean send(int n, long bytes) {
        return source.enqueue(n, bytes);
    }

    public boolean tick(int n) {
        if (n < 1 || n > MOST_TICKS) {
            return false;
        }
        for (int i = 0; i < n; i++) {
            passTick();
        }
        return true;
    }

    public boolean cut(int line, boolean on) {
        if (!isLine(line) || lineAt(line).broken == on) {
            return false;
        }
        lineAt(line).broken = on;
        return true;
    }

    public boolean damage(int line, int place, int bits) {
        if (!isLine(line) || !isPlace(place) || bits < 0 || bits > 255) {
            return false;
        }
        lineAt(line).harm[place] ^= bits;
        return true;
    }

    public boolean drift(int n) {
        return nodeA.owe(n);
    }

    public boolean command(int c) {
        if (c < Switch.NO_COMMAND || c > Switch.LOCKOUT) {
            return false;
        }
        nodeB.order = c;
        return true;
    }

    public int waiting() {
        return source.queued;
    }

    public int sent(int line, int place) {
        return isLine(line) && isPlace(place) ? lineAt(line).latestByte(place) : NONE;
    }

    public int alignment(int line) {
        return isLine(line) ? lineAt(line).state : NONE;
    }

    public int errors(int line) {
        return isLine(line) ? lineAt(line).errorBits : NONE;
    }

    public int request() {
        return nodeB.asked;
    }

    public boolean bridged() {
        return nodeA.bridgeOn();
    }

    public int selected() {
        return nodeB.chosen;
    }

    public int pointer() {
        return reader.v;
    }

    public int pathErrors() {
        return reader.errorBits;
    }

    public int sync() {
        return stream.state;
    }

    public int delivered() {
        return stream.good;
    }

    public int dropped() {
        return stream.bad;
    }

    public int got(int k, int i) {
        return stream.kept(k, i);
    }

    /** The order of the steps is the document's; the numbers are its numbers. */
    private void passTick() {
        nodeA.heard.hear(back.arriving(protection.broken)); // (1)
        nodeA.transmit(working, protection); // (2)
        working.receive(); // (3)
        protection.receive();
        nodeB.heard.hear(protection.readable() ? protection.plainAt(3) : NONE); // (4)
        nodeB.decide(working.failed(), protection.failed()); // (5), (6)
        Line line = lineAt(nodeB.chosen);
        if (line.readable() && line.plainAt(4) != 255) { // (7)
            reader.take(line);
        } else {
            reader.gap();
        }
        back.launch(nodeB.kByte()); // (8)
    }

    private Line lineAt(int line) {
        return line == 0 ? working : protection;
    }

    private static boolean isLine(int line) {
        return line == 0 || line == 1;
    }

    private static boolean isPlace(int place) {
        return place >= 0 && place < PLACES;
    }

    private static int delayOf(int argument) {
        return 1 + (argument & 3);
    }

    /** What both ends know of the headers, the check and the pointer byte. */
    private static final class Code {
        private static final int FIRST_MASK = 182;
        private static final int SECOND_MASK = 171;
        private static final int CHECK_START = 255;
        private static final int MOST_BYTES = 6;
        private static final int UP_BITS = 21;
        private static final int DOWN_BITS = 42;

        /** The document's H. */
        static int hash(int x) {
            int h = x;
            for (int i = 0; i < 8; i++) {
                h = h >= 128 ? (2 * h ^ 7) & 255 : 2 * h;
            }
            return h;
        }

        /** The L of a header, NONE when the two bytes are none. */
        static int lengthIn(int b, int e) {
            int length = b ^ FIRST_MASK;
            return hash(length) == (e ^ SECOND_MASK) ? length : NONE;
        }

        /** As lengthIn, but one wrong bit is put right. */
        static int lengthRepaired(int b, int e) {
            int length = b ^ FIRST_MASK;
            int due = e ^ SECOND_MASK;
            if (Integer.bitCount(hash(length) ^ due) <= 1) {
                return length;
            }
            for (int i = 0; i < 8; i++) {
                int changed = length ^ 1 << i;
                if (hash(changed) == due) {
                    return changed;
                }
            }
            return NONE;
        }

        static int pointerByte(int p) {
            return 64 + 9 * p;
        }

        /** The q that a pointer byte is plain for, NONE when it is not plain. */
        static int plainFor(int x) {
            int q = (x - 64) / 9;
            return q >= 0 && q < CONTAINER && pointerByte(q) == x ? q : NONE;
        }
    }

    /**
     * The client frames that wait at A, and the stream that is made of them. A frame is made ready,
     * scrambling and all, when it is sent: frames come into the stream in that same order.
     */
    private static final class StreamSource {
        private static final int MOST_WAITING = 8;
        private static final int MOST_LENGTH = Code.MOST_BYTES + 3;

        private final int[] ready = new int[MOST_WAITING * MOST_LENGTH];
        private final int[] lengths = new int[MOST_WAITING];
        private int oldest;
        private int queued;
        private int before;

        // The frame or idle of which bytes are being taken: its place in the row may be filled anew.
        private final int[] current = new int[MOST_LENGTH];
        private int length;
        private int position;

        boolean enqueue(int n, long bytes) {
            if (n < 1 || n > Code.MOST_BYTES || queued >= MOST_WAITING) {
                return false;
            }
            int slot = (oldest + queued) % MOST_WAITING;
            makeReady(slot * MOST_LENGTH, n, bytes);
            lengths[slot] = n + 3;
            queued++;
            return true;
        }

        private void makeReady(int start, int n, long bytes) {
            ready[start] = n + 1 ^ Code.FIRST_MASK;
            ready[start + 1] = Code.hash(n + 1) ^ Code.SECOND_MASK;
            int check = Code.CHECK_START;
            for (int i = 0; i < n; i++) {
                int b = (int) (bytes >> 8 * i) & 255;
                check = Code.hash(check ^ b);
                before ^= b;
                ready[start + 2 + i] = before;
            }
            before ^= check;
            ready[start + 2 + n] = before;
        }

        int nextByte() {
            if (position >= length) {
                begin();
            }
            int b = current[position];
            position++;
            return b;
        }

        private void begin() {
            position = 0;
            if (queued == 0) {
                current[0] = Code.FIRST_MASK;
                current[1] = Code.SECOND_MASK;
                length = 2;
                return;
            }
            length = lengths[oldest];
            System.arraycopy(ready, oldest * MOST_LENGTH, current, 0, length);
            oldest = (oldest + 1) % MOST_WAITING;
            queued--;
        }
    }

    /** The stream in containers, byte by byte. */
    private static final class ContainerSource {
        private final StreamSource source;
        private int place;
        private int joined;

        ContainerSource(StreamSource source) {
            this.source = source;
        }

        int nextByte() {
            int b = place == 0 ? joined : source.nextByte();
            joined = place == 0 ? b : joined ^ b;
            place = place == CONTAINER - 1 ? 0 : place + 1;
            return b;
        }
    }

    /** A byte counts when it has come in three ticks one behind the other. */
    private static final class Listener {
        private int accepted;
        private int latest = NONE;
        private int row;

        /** k is NONE when nothing came in this tick. */
        void hear(int k) {
            row = k == latest ? row + 1 : 1;
            latest = k;
            if (row >= 3 && k != NONE) {
                accepted = k;
            }
        }
    }

    /** Node A: it fills the frames, moves the pointer and keeps the bridge. */
    private static final class NodeA {
        private static final int MOST_DEBT = 8;
        private static final int REST = 3;
        private static final int[] EMPTY = {255, 255, 255, 255, 255, 255, 255, 255};

        private final ContainerSource containers;
        private final Listener heard = new Listener();
        // Places 4 .. 11 of the frame, without the row.
        private final int[] content = new int[PLACES - 4];
        private int p;
        private int debt;
        private int rest;

        NodeA(ContainerSource containers) {
            this.containers = containers;
        }

        boolean owe(int n) {
            if (n < -MOST_DEBT - debt || n > MOST_DEBT - debt) {
                return false;
            }
            debt += n;
            return true;
        }

        boolean bridgeOn() {
            int wanted = heard.accepted / 16;
            return wanted >= 1 && wanted <= 4;
        }

        void transmit(Line working, Line protection) {
            fill(justification());
            boolean bridge = bridgeOn();
            working.launch(0, content);
            int k = heard.accepted / 16 * 16 + (bridge ? 1 : 0);
            protection.launch(k, bridge ? content : EMPTY);
        }

        /** 1, -1 or 0: how this frame is justified; the debt falls with it. */
        private int justification() {
            if (rest > 0) {
                rest--;
                return 0;
            }
            if (debt == 0) {
                return 0;
            }
            int shift = debt > 0 ? 1 : -1;
            debt -= shift;
            rest = REST;
            return shift;
        }

        private void fill(int shift) {
            int flip = shift == 0 ? 0 : shift > 0 ? Code.UP_BITS : Code.DOWN_BITS;
            content[0] = Code.pointerByte(p) ^ flip;
            content[1] = 0;
            content[2] = 0;
            for (int i = 2 + shift; i < content.length; i++) {
                content[i] = containers.nextByte();
            }
            p = (p + shift + CONTAINER) % CONTAINER;
        }
    }

    /** A line from A to B: the frames under way on it, and what B makes of those that arrive. */
    private static final class Line {
        private static final int OUT = 0;
        private static final int TRIED = 1;
        private static final int IN = 2;
        private static final int MOST_BAD = 3;
        private static final int FIRST = 246;
        private static final int SECOND = 40;
        // More slots than the longest delay, so that a frame still stands when it arrives.
        private static final int SLOTS = 8;
        // The row for places 2 .. 11 is the same in each frame, so it stands here made.
        private static final int[] ROW = {254, 4, 24, 81, 228, 89, 212, 250, 28, 73};

        private final int delay;
        private final int[] underWay = new int[SLOTS * PLACES];
        private int launched;
        private int joinedSent;

        private boolean broken;
        private final int[] harm = new int[PLACES];

        private final int[] arrived = new int[PLACES];
        private boolean hasArrived;
        private int joinedArrived;
        private int state;
        private int badRow;
        private int errorBits;

        Line(int delay) {
            this.delay = delay;
        }

        /** Sends a frame; content has its places 4 .. 11. */
        void launch(int k, int[] content) {
            int start = slotOf(launched);
            launched++;
            underWay[start] = FIRST;
            underWay[start + 1] = SECOND;
            underWay[start + 2] = joinedSent ^ ROW[0];
            underWay[start + 3] = k ^ ROW[1];
            for (int i = 4; i < PLACES; i++) {
                underWay[start + i] = content[i - 4] ^ ROW[i - 2];
            }
            joinedSent = joinedFrom(underWay, start);
        }

        int latestByte(int place) {
            return launched == 0 ? NONE : underWay[slotOf(launched - 1) + place];
        }

        /** To be called in each tick after launch. */
        void receive() {
            boolean hadArrived = hasArrived;
            int joinedBefore = joinedArrived;
            hasArrived = !broken && launched > delay;
            if (hasArrived) {
                bringIn(slotOf(launched - 1 - delay));
            }
            Arrays.fill(harm, 0);
            align(hasArrived && arrived[0] == FIRST && arrived[1] == SECOND);
            if (readable() && hadArrived) {
                errorBits += Integer.bitCount(plainAt(2) ^ joinedBefore);
            }
        }

        private void bringIn(int start) {
            for (int i = 0; i < PLACES; i++) {
                arrived[i] = underWay[start + i] ^ harm[i];
            }
            joinedArrived = joinedFrom(arrived, 0);
        }

        private void align(boolean good) {
            if (good) {
                badRow = 0;
                state = state == OUT ? TRIED : IN;
                return;
            }
            badRow++;
            if (state == TRIED || badRow >= MOST_BAD) {
                state = OUT;
            }
        }

        boolean failed() {
            return state != IN;
        }

        boolean readable() {
            return state == IN && hasArrived;
        }

        /** What arrived at one of the places 2 .. 11, without the row. */
        int plainAt(int place) {
            return arrived[place] ^ ROW[place - 2];
        }

        private static int slotOf(int frame) {
            return (frame & SLOTS - 1) * PLACES;
        }

        private static int joinedFrom(int[] bytes, int start) {
            int joined = 0;
            for (int i = 0; i < PLACES; i++) {
                joined ^= bytes[start + i];
            }
            return joined;
        }
    }

    /** The line from B to A, which carries nothing but K. */
    private static final class BackLine {
        private static final int SLOTS = 8;

        private final int delay;
        private final int[] underWay = new int[SLOTS];
        private int launched;

        BackLine(int delay) {
            this.delay = delay;
        }

        /** To be called in each tick before launch; NONE when nothing arrives. */
        int arriving(boolean broken) {
            return broken || launched < delay ? NONE : underWay[launched - delay & SLOTS - 1];
        }

        void launch(int k) {
            underWay[launched & SLOTS - 1] = k;
            launched++;
        }
    }

    /** Node B's choice of a line. */
    private static final class Switch {
        private static final int NO_COMMAND = 0;
        private static final int MANUAL = 1;
        private static final int FORCED = 2;
        private static final int LOCKOUT = 3;

        private static final int ASKS_NOTHING = 0;
        private static final int ASKS_WAITING = 1;
        private static final int ASKS_MANUAL = 2;
        private static final int ASKS_FAILED = 3;
        private static final int ASKS_FORCED = 4;
        private static final int ASKS_LOCKOUT = 5;

        private final int hold;
        private final int wait;
        private final Listener heard = new Listener();
        private int order;
        private int failedFor;
        private int waitLeft;
        private int asked;
        private int chosen;

        Switch(int hold, int wait) {
            this.hold = hold;
            this.wait = wait;
        }

        void decide(boolean workingFailed, boolean protectionFailed) {
            failedFor = workingFailed ? failedFor + 1 : 0;
            int pressing = pressing(protectionFailed);
            asked = pressing == ASKS_NOTHING ? waitOn() : pressing;
            boolean over = asked >= ASKS_WAITING && asked <= ASKS_FORCED && heard.accepted % 2 == 1;
            chosen = over ? 1 : 0;
        }

        private int pressing(boolean protectionFailed) {
            if (order == LOCKOUT || protectionFailed) {
                return ASKS_LOCKOUT;
            }
            if (order == FORCED) {
                return ASKS_FORCED;
            }
            if (failedFor > hold) {
                return ASKS_FAILED;
            }
            return order == MANUAL ? ASKS_MANUAL : ASKS_NOTHING;
        }

        /** The request when nothing presses; asked is still that of the tick before. */
        private int waitOn() {
            if (asked == ASKS_FAILED) {
                waitLeft = wait;
            } else if (asked != ASKS_WAITING) {
                // What pressed meanwhile has ended the waiting.
                waitLeft = 0;
            }
            if (waitLeft == 0) {
                return ASKS_NOTHING;
            }
            waitLeft--;
            return ASKS_WAITING;
        }

        int kByte() {
            return 16 * asked + chosen;
        }
    }

    /** Follows the pointer, and finds the containers by it. */
    private static final class PointerReader {
        private static final int LOST = -1;
        private static final int PLAIN_ROW = 3;
        private static final int STRANGE_ROW = 8;
        private static final int GAP_ROW = 3;

        private final StreamReader stream;
        private int v = LOST;
        private int gapRow;
        private int plainRow;
        private int plainQ;
        private int strangeRow;
        // Bytes read from the latest first byte on, 0 when no first byte can be judged by them.
        private int sinceFirst;
        private int joined;
        private int errorBits;

        PointerReader(StreamReader stream) {
            this.stream = stream;
        }

        void gap() {
            gapRow++;
            if (v == LOST) {
                plainRow = 0;
            } else if (gapRow >= GAP_ROW) {
                v = LOST;
                endRows();
            }
            breakOff();
        }

        void take(Line line) {
            gapRow = 0;
            int shift = follow(line.plainAt(4));
            if (v == LOST) {
                breakOff();
                return;
            }
            int start = 6 + shift;
            for (int place = start; place < PLACES; place++) {
                int b = line.plainAt(place);
                if ((place - start) % CONTAINER == v) {
                    beginContainer(b);
                } else {
                    joined ^= b;
                    sinceFirst = sinceFirst == 0 ? 0 : sinceFirst + 1;
                    stream.give(b);
                }
            }
            v = (v + shift + CONTAINER) % CONTAINER;
        }

        private void beginContainer(int first) {
            if (sinceFirst == CONTAINER) {
                errorBits += Integer.bitCount(first ^ joined);
            }
            joined = first;
            sinceFirst = 1;
        }

        /** Sets the v that holds for a frame with the pointer byte x, and answers its shift. */
        private int follow(int x) {
            if (v == LOST) {
                seek(x);
                return 0;
            }
            int shift = shiftIn(x);
            if (shift != 0 || x == Code.pointerByte(v)) {
                endRows();
            } else {
                doubt(x);
            }
            return shift;
        }

        /** 1, -1 or 0: how x says that the frame is justified. */
        private int shiftIn(int x) {
            if (x / 64 != 1) {
                return 0;
            }
            int d = x ^ Code.pointerByte(v);
            int up = Integer.bitCount(d & Code.UP_BITS);
            int down = Integer.bitCount(d & Code.DOWN_BITS);
            if (up >= 2 && down <= 1) {
                return 1;
            }
            return down >= 2 && up <= 1 ? -1 : 0;
        }

        private void seek(int x) {
            countPlain(x);
            if (plainRow == PLAIN_ROW) {
                v = plainQ;
                endRows();
            }
        }

        private void doubt(int x) {
            strangeRow++;
            countPlain(x);
            if (plainRow == PLAIN_ROW) {
                v = plainQ;
                sinceFirst = 0;
                endRows();
            } else if (strangeRow == STRANGE_ROW) {
                v = LOST;
                endRows();
            }
        }

        private void countPlain(int x) {
            int q = Code.plainFor(x);
            if (q == NONE) {
                plainRow = 0;
                return;
            }
            plainRow = q == plainQ ? plainRow + 1 : 1;
            plainQ = q;
        }

        private void endRows() {
            plainRow = 0;
            strangeRow = 0;
        }

        private void breakOff() {
            sinceFirst = 0;
            stream.hunt();
        }
    }

    /** Finds the client frames in the stream, and keeps the latest of them. */
    private static final class StreamReader {
        private static final int HUNT = 0;
        private static final int PRESYNC = 1;
        private static final int SYNC = 2;
        private static final int KEPT = 8;

        private int state = HUNT;
        // Whether the first byte of a pair that may be a header has come, and which it is.
        private boolean half;
        private int first;
        private int length;
        private int done;
        private int before;
        private int check;
        private final int[] frame = new int[Code.MOST_BYTES];

        private int good;
        private int bad;
        private final int[] sizes = new int[KEPT];
        private final int[] contents = new int[KEPT * Code.MOST_BYTES];

        void hunt() {
            state = HUNT;
            half = false;
            length = 0;
            done = 0;
        }

        void give(int b) {
            if (done < length) {
                takeFrameByte(b);
            } else if (half) {
                takeHeader(b);
            } else {
                half = true;
                first = b;
            }
        }

        private void takeHeader(int second) {
            boolean mayRepair = state == SYNC;
            int l = mayRepair ? Code.lengthRepaired(first, second) : Code.lengthIn(first, second);
            if (l != NONE) {
                state = state == HUNT ? PRESYNC : SYNC;
                half = false;
                length = l;
                done = 0;
                check = Code.CHECK_START;
            } else if (state == HUNT) {
                first = second;
            } else {
                hunt();
            }
        }

        private void takeFrameByte(int b) {
            int plain = b ^ before;
            before = b;
            done++;
            if (state == PRESYNC) {
                return;
            }
            if (done == length) {
                endFrame(plain);
                return;
            }
            if (done <= Code.MOST_BYTES) {
                frame[done - 1] = plain;
            }
            check = Code.hash(check ^ plain);
        }

        private void endFrame(int last) {
            if (length >= 2 && length <= Code.MOST_BYTES + 1 && last == check) {
                good++;
                sizes[slotOf(good)] = length - 1;
                System.arraycopy(frame, 0, contents, slotOf(good) * Code.MOST_BYTES, length - 1);
            } else {
                bad++;
            }
        }

        int kept(int k, int i) {
            if (k < 0 || k >= KEPT || k >= good) {
                return NONE;
            }
            int slot = slotOf(good - k);
            if (i == -1) {
                return sizes[slot];
            }
            return i >= 0 && i < sizes[slot] ? contents[slot * Code.MOST_BYTES + i] : NONE;
        }

        private static int slotOf(int number) {
            return number & KEPT - 1;
        }
    }
}
