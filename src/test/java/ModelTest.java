import java.util.Random;

/** Long made-up runs: ProtectedLine and the plain model of the document answer the same everywhere. */
public final class ModelTest {
    private static final int RUNS = 3000;
    private static final int STEPS = 60;
    private static final int[] EDGES = {Integer.MIN_VALUE, -10, -9, -2, -1, 0, 1, 2, 3, 4, 5, 6, 7, 8, 9, 10, 11,
        12, 13, 40, 41, 255, 256, Integer.MAX_VALUE};

    private final Due due;
    private final Random random;
    private final String name;
    private final ProtectedLine line;
    private final Model model;
    private int calls = 0;

    private ModelTest(Due due, int run) {
        this.due = due;
        this.random = new Random(run);
        int working = random.nextInt();
        int protection = random.nextInt();
        int hold = random.nextBoolean() ? random.nextInt() : 0;
        int wait = random.nextInt();
        this.name = "run " + run;
        this.line = new ProtectedLine(working, protection, hold, wait);
        this.model = new Model(working, protection, hold, wait);
    }

    public static void main(String[] args) {
        Due due = new Due();
        for (int run = 0; run < RUNS && !due.anyWrong(); run++) {
            new ModelTest(due, run).play();
        }
        due.end("ModelTest");
    }

    private void play() {
        compare("the constructor");
        if (random.nextInt(4) != 0) {
            tick(8 + random.nextInt(8));
        }
        for (int step = 0; step < STEPS && !due.anyWrong(); step++) {
            step();
        }
    }

    private void step() {
        switch (random.nextInt(12)) {
            case 0:
                tick(1 + random.nextInt(random.nextInt(4) == 0 ? 40 : 6));
                break;
            case 1:
            case 2:
                sendSome(1 + random.nextInt(random.nextInt(5) == 0 ? 10 : 3));
                break;
            case 3:
                cutForAWhile();
                break;
            case 4:
                command(random.nextInt(2) == 0 ? 0 : random.nextInt(4));
                break;
            case 5:
                drift(random.nextInt(19) - 9);
                break;
            case 6:
                wrongPointer();
                break;
            case 7:
                manyWrongPointers();
                break;
            case 8:
                wrongFraming();
                break;
            case 9:
                wrongContent();
                break;
            case 10:
                wrongK();
                break;
            default:
                edges();
        }
        if (random.nextInt(3) == 0) {
            tick(1 + random.nextInt(4));
        }
    }

    private void sendSome(int frames) {
        for (int i = 0; i < frames; i++) {
            send(1 + random.nextInt(6), random.nextLong());
        }
        tick(1 + random.nextInt(3));
    }

    private void cutForAWhile() {
        int which = random.nextInt(2);
        cut(which, true);
        tick(1 + random.nextInt(random.nextInt(3) == 0 ? 30 : 4));
        if (random.nextInt(5) != 0) {
            cut(which, false);
            tick(1 + random.nextInt(3));
        }
    }

    /** The bits that make another thing of the pointer byte for p; the reader's v is the likeliest p. */
    private int pointerBits(int kind) {
        int p = Math.max(line.pointer(), 0);
        switch (kind) {
            case 0:
                return 9 * p ^ 9 * random.nextInt(6);
            case 1:
                return 1 << random.nextInt(8);
            case 2:
                return 21 ^ 1 << random.nextInt(6);
            case 3:
                return 42 ^ 1 << random.nextInt(6);
            case 4:
                return 64 + 9 * p ^ 255;
            case 5:
                return random.nextInt(64);
            default:
                return random.nextInt(256);
        }
    }

    private void wrongPointer() {
        int bits = pointerBits(random.nextInt(7));
        int times = 1 + random.nextInt(4);
        for (int i = 0; i < times; i++) {
            damage(line.selected(), 4, bits);
            tick(1);
            if (random.nextInt(6) == 0) {
                oneGap();
            }
        }
    }

    private void manyWrongPointers() {
        int times = 6 + random.nextInt(6);
        for (int i = 0; i < times; i++) {
            damage(line.selected(), 4, pointerBits(random.nextInt(2)));
            tick(1);
            if (random.nextInt(10) == 0) {
                oneGap();
            }
        }
    }

    private void oneGap() {
        damage(line.selected(), 4, pointerBits(4));
        tick(1);
    }

    private void wrongFraming() {
        int which = random.nextInt(2);
        int times = 1 + random.nextInt(4);
        for (int i = 0; i < times; i++) {
            damage(which, random.nextInt(2), 1 << random.nextInt(8));
            tick(1);
        }
    }

    private void wrongContent() {
        int times = 1 + random.nextInt(5);
        for (int i = 0; i < times; i++) {
            damage(random.nextInt(4) == 0 ? 1 : line.selected(), 2 + random.nextInt(10), 1 << random.nextInt(8));
            if (random.nextInt(4) == 0) {
                damage(line.selected(), random.nextInt(12), random.nextInt(256));
            }
            tick(1);
        }
    }

    private void wrongK() {
        int bits = random.nextInt(3) == 0 ? random.nextInt(256) : 1;
        int times = 1 + random.nextInt(5);
        for (int i = 0; i < times; i++) {
            damage(1, 3, bits);
            tick(1);
        }
    }

    private int edge() {
        return EDGES[random.nextInt(EDGES.length)];
    }

    private void edges() {
        send(edge(), random.nextLong());
        tick(edge());
        cut(edge(), random.nextBoolean());
        damage(edge(), edge(), edge());
        drift(edge());
        command(edge());
        int a = edge();
        int b = edge();
        due.is(name + " sent", line.sent(a, b), model.sent(a, b));
        due.is(name + " alignment", line.alignment(a), model.alignment(a));
        due.is(name + " errors", line.errors(a), model.errors(a));
        due.is(name + " got", line.got(a, b), model.got(a, b));
    }

    private void send(int n, long bytes) {
        due.is(name + " send", line.send(n, bytes), model.send(n, bytes));
        compare("send(" + n + ", " + bytes + ")");
    }

    private void tick(int n) {
        due.is(name + " tick", line.tick(n), model.tick(n));
        compare("tick(" + n + ")");
    }

    private void cut(int which, boolean on) {
        due.is(name + " cut", line.cut(which, on), model.cut(which, on));
        compare("cut(" + which + ", " + on + ")");
    }

    private void damage(int which, int place, int bits) {
        due.is(name + " damage", line.damage(which, place, bits), model.damage(which, place, bits));
        compare("damage(" + which + ", " + place + ", " + bits + ")");
    }

    private void drift(int n) {
        due.is(name + " drift", line.drift(n), model.drift(n));
        compare("drift(" + n + ")");
    }

    private void command(int c) {
        due.is(name + " command", line.command(c), model.command(c));
        compare("command(" + c + ")");
    }

    private void compare(String after) {
        calls++;
        String at = name + ", behind call " + calls + ", " + after + ": ";
        due.is(at + "waiting()", line.waiting(), model.waiting());
        due.is(at + "request()", line.request(), model.request());
        due.is(at + "bridged()", line.bridged(), model.bridged());
        due.is(at + "selected()", line.selected(), model.selected());
        due.is(at + "pointer()", line.pointer(), model.pointer());
        due.is(at + "pathErrors()", line.pathErrors(), model.pathErrors());
        due.is(at + "sync()", line.sync(), model.sync());
        due.is(at + "delivered()", line.delivered(), model.delivered());
        due.is(at + "dropped()", line.dropped(), model.dropped());
        for (int which = -1; which < 3; which++) {
            due.is(at + "alignment(" + which + ")", line.alignment(which), model.alignment(which));
            due.is(at + "errors(" + which + ")", line.errors(which), model.errors(which));
            for (int place = -1; place < 13; place++) {
                due.is(at + "sent(" + which + ", " + place + ")", line.sent(which, place), model.sent(which, place));
            }
        }
        for (int k = -1; k < 9; k++) {
            for (int i = -2; i < 7; i++) {
                due.is(at + "got(" + k + ", " + i + ")", line.got(k, i), model.got(k, i));
            }
        }
    }
}
