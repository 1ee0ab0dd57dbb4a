import java.util.ArrayDeque;
import java.util.ArrayList;
import java.util.List;

/**
 * The document said a second time, slowly: it keeps all that ever happened and derives each answer
 * from that, so that it shares neither the code nor the way of working of ProtectedLine.
 */
final class Model {
    private static final int LOST = -1;

    private final int[] delays;
    private final int hold;
    private final int wait;
    private final int[] row = scramblingRow();

    private final boolean[] cut = new boolean[2];
    private final int[][] harm = new int[2][12];
    private int command = 0;
    private int debt = 0;

    // Node A
    private final ArrayDeque<int[]> queue = new ArrayDeque<>();
    private final ArrayDeque<Integer> streamAhead = new ArrayDeque<>();
    private int lastScrambled = 0;
    private final List<Integer> containerBytes = new ArrayList<>();
    private final List<Boolean> justified = new ArrayList<>();
    private final List<Integer> heardByA = new ArrayList<>();
    private int acceptedByA = 0;

    // What was sent, and what arrived (null: nothing); entry t - 1 is that of tick t.
    private final List<List<int[]>> frames = List.of(new ArrayList<>(), new ArrayList<>());
    private final List<List<int[]>> arrivals = List.of(new ArrayList<>(), new ArrayList<>());
    private final List<List<Boolean>> goods = List.of(new ArrayList<>(), new ArrayList<>());
    private final int[] alignment = new int[2];
    private final int[] errors = new int[2];
    private final List<Integer> sentByB = new ArrayList<>();

    // Node B
    private final List<Integer> heardByB = new ArrayList<>();
    private int acceptedByB = 0;
    private final List<Boolean> workingFailed = new ArrayList<>();
    private final List<Integer> requests = new ArrayList<>();
    private int selected = 0;

    // The pointer reader: pointer bytes, -1 for a gap.
    private final List<Integer> events = new ArrayList<>();
    private int v = LOST;
    private int lostAt = -1;
    private int rowsFrom = 0;
    private final List<int[]> bytesRead = new ArrayList<>();
    private int chain = 0;
    private int pathErrors = 0;

    // The stream reader: what was given to it, a list for each time that HUNT was begun from outside.
    private final List<List<Integer>> given = new ArrayList<>();
    private boolean parsed = false;
    private int sync;
    private final List<int[]> delivered = new ArrayList<>();
    private int dropped;

    Model(int working, int protection, int hold, int wait) {
        delays = new int[] {Math.floorMod(working, 4) + 1, Math.floorMod(protection, 4) + 1};
        this.hold = Math.floorMod(hold, 8);
        this.wait = Math.floorMod(wait, 8);
        given.add(new ArrayList<>());
    }

    static int[] scramblingRow() {
        int[] made = new int[10];
        int number = 127;
        for (int bit = 0; bit < 80; bit++) {
            int highest = number / 64;
            int second = number / 32 % 2;
            made[bit / 8] = made[bit / 8] * 2 + highest;
            number = number * 2 % 128 + (highest != second ? 1 : 0);
        }
        return made;
    }

    /** H is the remainder of x * 2^8 by the polynomial 1 0000 0111. */
    static int h(int x) {
        int rest = x << 8;
        for (int bit = 15; bit >= 8; bit--) {
            if ((rest >> bit & 1) == 1) {
                rest ^= 0x107 << bit - 8;
            }
        }
        return rest;
    }

    static int checkOf(int[] bytes, int n) {
        int c = 255;
        for (int i = 0; i < n; i++) {
            c = h(c ^ bytes[i]);
        }
        return c;
    }

    boolean send(int n, long bytes) {
        if (n < 1 || n > 6 || queue.size() >= 8) {
            return false;
        }
        int[] frame = new int[n];
        for (int i = 0; i < n; i++) {
            frame[i] = (int) (bytes >>> 8 * i & 0xff);
        }
        queue.add(frame);
        return true;
    }

    boolean tick(int n) {
        if (n < 1 || n > 40) {
            return false;
        }
        for (int i = 0; i < n; i++) {
            oneTick();
        }
        parsed = false;
        return true;
    }

    boolean cut(int line, boolean on) {
        if (line < 0 || line > 1) {
            return false;
        }
        boolean changes = cut[line] != on;
        cut[line] = on;
        return changes;
    }

    boolean damage(int line, int place, int bits) {
        if (line < 0 || line > 1 || place < 0 || place > 11 || bits < 0 || bits > 255) {
            return false;
        }
        harm[line][place] ^= bits;
        return true;
    }

    boolean drift(int n) {
        long then = (long) debt + n;
        if (then < -8 || then > 8) {
            return false;
        }
        debt = (int) then;
        return true;
    }

    boolean command(int c) {
        if (c < 0 || c > 3) {
            return false;
        }
        command = c;
        return true;
    }

    int waiting() {
        return queue.size();
    }

    int sent(int line, int place) {
        if (line < 0 || line > 1 || place < 0 || place > 11 || frames.get(line).isEmpty()) {
            return -1;
        }
        return back(frames.get(line), 0)[place];
    }

    int alignment(int line) {
        return line < 0 || line > 1 ? -1 : alignment[line];
    }

    int errors(int line) {
        return line < 0 || line > 1 ? -1 : errors[line];
    }

    int request() {
        return requests.isEmpty() ? 0 : back(requests, 0);
    }

    boolean bridged() {
        return acceptedByA >= 16 && acceptedByA < 80;
    }

    int selected() {
        return selected;
    }

    int pointer() {
        return v;
    }

    int pathErrors() {
        return pathErrors;
    }

    int sync() {
        parse();
        return sync;
    }

    int delivered() {
        parse();
        return delivered.size();
    }

    int dropped() {
        parse();
        return dropped;
    }

    int got(int k, int i) {
        parse();
        if (k < 0 || k > 7 || k >= delivered.size()) {
            return -1;
        }
        int[] frame = back(delivered, k);
        if (i == -1) {
            return frame.length;
        }
        return i < 0 || i >= frame.length ? -1 : frame[i];
    }

    private static <T> T back(List<T> list, int n) {
        return list.get(list.size() - 1 - n);
    }

    private void oneTick() {
        int now = sentByB.size();
        int fromB = now - delays[1];
        heardByA.add(cut[1] || fromB < 0 ? null : sentByB.get(fromB));
        if (threeTheSame(heardByA)) {
            acceptedByA = back(heardByA, 0);
        }
        sendFrames();
        for (int line = 0; line < 2; line++) {
            arrive(line, now);
        }
        int[] onProtection = usable(1);
        heardByB.add(onProtection == null ? null : onProtection[3] ^ row[1]);
        if (threeTheSame(heardByB)) {
            acceptedByB = back(heardByB, 0);
        }
        workingFailed.add(alignment[0] != 2);
        requests.add(nextRequest());
        int request = request();
        selected = request >= 1 && request <= 4 && (acceptedByB & 1) == 1 ? 1 : 0;
        int[] frame = usable(selected);
        if (frame == null || (frame[4] ^ row[2]) == 255) {
            gap();
        } else {
            readFrame(frame);
        }
        sentByB.add(16 * request + selected);
    }

    private static boolean threeTheSame(List<Integer> heard) {
        if (heard.size() < 3 || back(heard, 0) == null) {
            return false;
        }
        return back(heard, 0).equals(back(heard, 1)) && back(heard, 0).equals(back(heard, 2));
    }

    /** What arrived on a line in this tick, null when that is nothing or the line is not IN. */
    private int[] usable(int line) {
        return alignment[line] == 2 ? back(arrivals.get(line), 0) : null;
    }

    private int nextStreamByte() {
        if (streamAhead.isEmpty()) {
            int[] frame = queue.poll();
            int l = frame == null ? 0 : frame.length + 1;
            streamAhead.add(l ^ 182);
            streamAhead.add(h(l) ^ 171);
            for (int i = 0; i < l; i++) {
                int b = i < frame.length ? frame[i] : checkOf(frame, frame.length);
                lastScrambled = b ^ lastScrambled;
                streamAhead.add(lastScrambled);
            }
        }
        return streamAhead.poll();
    }

    private int nextContainerByte() {
        int index = containerBytes.size();
        int b = 0;
        if (index % 6 != 0) {
            b = nextStreamByte();
        } else if (index > 0) {
            for (int i = 1; i <= 6; i++) {
                b ^= containerBytes.get(index - i);
            }
        }
        containerBytes.add(b);
        return b;
    }

    private boolean mayJustify() {
        for (int i = 0; i < 3 && i < justified.size(); i++) {
            if (back(justified, i)) {
                return false;
            }
        }
        return debt != 0;
    }

    private void sendFrames() {
        int p = Math.floorMod(-containerBytes.size(), 6);
        int[] frame = new int[12];
        boolean justify = mayJustify();
        justified.add(justify);
        int from = 6;
        frame[4] = 64 + 9 * p;
        if (justify && debt > 0) {
            debt--;
            from = 7;
            frame[4] = 64 + ((9 * p) ^ 21);
        } else if (justify) {
            debt++;
            from = 5;
            frame[4] = 64 + ((9 * p) ^ 42);
        }
        for (int place = from; place < 12; place++) {
            frame[place] = nextContainerByte();
        }
        for (int line = 0; line < 2; line++) {
            int[] own = frame.clone();
            if (line == 1 && !bridged()) {
                for (int place = 4; place < 12; place++) {
                    own[place] = 255;
                }
            }
            own[0] = 246;
            own[1] = 40;
            own[2] = frames.get(line).isEmpty() ? 0 : joined(back(frames.get(line), 0));
            own[3] = line == 0 ? 0 : acceptedByA / 16 * 16 + (bridged() ? 1 : 0);
            for (int place = 2; place < 12; place++) {
                own[place] ^= row[place - 2];
            }
            frames.get(line).add(own);
        }
    }

    private static int joined(int[] bytes) {
        int all = 0;
        for (int b : bytes) {
            all ^= b;
        }
        return all;
    }

    private void arrive(int line, int now) {
        int from = now - delays[line];
        int[] frame = cut[line] || from < 0 ? null : frames.get(line).get(from).clone();
        for (int place = 0; place < 12; place++) {
            if (frame != null) {
                frame[place] ^= harm[line][place];
            }
            harm[line][place] = 0;
        }
        arrivals.get(line).add(frame);
        goods.get(line).add(frame != null && frame[0] == 246 && frame[1] == 40);
        alignment[line] = nextAlignment(alignment[line], goods.get(line));
        int[] earlier = now == 0 ? null : back(arrivals.get(line), 1);
        if (alignment[line] == 2 && frame != null && earlier != null) {
            errors[line] += Integer.bitCount(frame[2] ^ row[0] ^ joined(earlier));
        }
    }

    private static int nextAlignment(int state, List<Boolean> good) {
        switch (state) {
            case 0:
                return back(good, 0) ? 1 : 0;
            case 1:
                return back(good, 0) ? 2 : 0;
            default:
                return back(good, 0) || back(good, 1) || back(good, 2) ? 2 : 0;
        }
    }

    private int nextRequest() {
        if (command == 3 || alignment[1] != 2) {
            return 5;
        }
        if (command == 2) {
            return 4;
        }
        int failedFor = 0;
        while (failedFor < workingFailed.size() && back(workingFailed, failedFor)) {
            failedFor++;
        }
        if (failedFor > hold) {
            return 3;
        }
        if (command == 1) {
            return 2;
        }
        int since = 0;
        while (since < requests.size() && back(requests, since) <= 1) {
            since++;
        }
        return since < requests.size() && back(requests, since) == 3 && since < wait ? 1 : 0;
    }

    private void gap() {
        events.add(-1);
        huntAnew();
        boolean third = events.size() >= 3 && back(events, 1) == -1 && back(events, 2) == -1;
        if (third && v != LOST) {
            v = LOST;
            lostAt = events.size() - 1;
        }
    }

    private void huntAnew() {
        chain++;
        given.add(new ArrayList<>());
    }

    private static int plainFor(int x) {
        for (int q = 0; q < 6; q++) {
            if (x == 64 + 9 * q) {
                return q;
            }
        }
        return -1;
    }

    private void readFrame(int[] frame) {
        int x = frame[4] ^ row[2];
        events.add(x);
        int change = 0;
        if (v == LOST) {
            int q = threePlain(events, lostAt + 1);
            if (q >= 0) {
                v = q;
                rowsFrom = events.size();
            }
        } else {
            change = understand(x);
        }
        if (v == LOST) {
            huntAnew();
            return;
        }
        int from = 6 + change;
        for (int place = from; place < 12; place++) {
            int index = place - from;
            readByte(frame[place] ^ row[place - 2], index == v || index == v + 6);
        }
        v = Math.floorMod(v + change, 6);
    }

    /** The q of which the latest three entries, none before from, are plain; -1 when there is none. */
    private static int threePlain(List<Integer> xs, int from) {
        if (xs.size() - 3 < from) {
            return -1;
        }
        int q = plainFor(back(xs, 0));
        return back(xs, 1).equals(back(xs, 0)) && back(xs, 2).equals(back(xs, 0)) ? q : -1;
    }

    private int understand(int x) {
        int d = x ^ 64 + 9 * v;
        int odd = (d & 1) + (d >> 2 & 1) + (d >> 4 & 1);
        int even = (d >> 1 & 1) + (d >> 3 & 1) + (d >> 5 & 1);
        boolean tagged = x >= 64 && x <= 127;
        int change = 2;
        if (d == 0) {
            change = 0;
        } else if (tagged && odd >= 2 && even <= 1) {
            change = 1;
        } else if (tagged && even >= 2 && odd <= 1) {
            change = -1;
        }
        if (change != 2) {
            rowsFrom = events.size();
            return change;
        }
        List<Integer> strange = new ArrayList<>();
        for (int i = rowsFrom; i < events.size(); i++) {
            if (events.get(i) != -1) {
                strange.add(events.get(i));
            }
        }
        int q = threePlain(strange, 0);
        if (q >= 0) {
            v = q;
            rowsFrom = events.size();
            chain++;
        } else if (strange.size() == 8) {
            v = LOST;
            lostAt = events.size() - 1;
        }
        return 0;
    }

    private void readByte(int b, boolean first) {
        int at = bytesRead.size();
        if (!first) {
            back(given, 0).add(b);
        } else if (at >= 6 && bytesRead.get(at - 6)[1] == 1 && bytesRead.get(at - 6)[2] == chain) {
            int all = 0;
            for (int i = at - 6; i < at; i++) {
                all ^= bytesRead.get(i)[0];
            }
            pathErrors += Integer.bitCount(all ^ b);
        }
        bytesRead.add(new int[] {b, first ? 1 : 0, chain});
    }

    private static boolean isHeader(int b, int e) {
        return h(b ^ 182) == (e ^ 171);
    }

    /** The L of the header that at most one changed bit makes of the two bytes; -1 when none does. */
    private static int mended(int b, int e) {
        if (isHeader(b, e)) {
            return b ^ 182;
        }
        for (int l = 0; l < 256; l++) {
            int wrong = Integer.bitCount(b ^ 182 ^ l) + Integer.bitCount(e ^ 171 ^ h(l));
            if (wrong == 1) {
                return l;
            }
        }
        return -1;
    }

    /** Reads all that was ever given anew from its first byte. */
    private void parse() {
        if (parsed) {
            return;
        }
        parsed = true;
        delivered.clear();
        dropped = 0;
        int before = 0;
        for (List<Integer> bytes : given) {
            before = parseStretch(bytes, before);
        }
    }

    /** Answers the scrambled byte that was read last. */
    private int parseStretch(List<Integer> bytes, int beforeIt) {
        int before = beforeIt;
        int at = 0;
        int size = bytes.size();
        while (true) {
            sync = 0;
            while (at + 1 < size && !isHeader(bytes.get(at), bytes.get(at + 1))) {
                at++;
            }
            if (at + 1 >= size) {
                return before;
            }
            sync = 1;
            int passed = bytes.get(at) ^ 182;
            for (at += 2; passed > 0 && at < size; passed--) {
                before = bytes.get(at++);
            }
            if (passed > 0 || at + 1 >= size) {
                return before;
            }
            int l = isHeader(bytes.get(at), bytes.get(at + 1)) ? bytes.get(at) ^ 182 : -1;
            at += 2;
            while (l >= 0) {
                sync = 2;
                int[] frame = new int[l];
                for (int i = 0; i < l; i++) {
                    if (at == size) {
                        return before;
                    }
                    frame[i] = bytes.get(at) ^ before;
                    before = bytes.get(at++);
                }
                judge(frame);
                if (at + 1 >= size) {
                    return before;
                }
                l = mended(bytes.get(at), bytes.get(at + 1));
                at += 2;
            }
        }
    }

    private void judge(int[] frame) {
        int n = frame.length - 1;
        if (n >= 1 && n <= 6 && frame[n] == checkOf(frame, n)) {
            delivered.add(java.util.Arrays.copyOf(frame, n));
        } else if (n >= 0) {
            dropped++;
        }
    }
}
