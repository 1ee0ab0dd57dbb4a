/** The example of README.md, call by call: what its comments say is what the class answers. */
public final class ReadmeTest {
    private ReadmeTest() {
    }

    public static void main(String[] args) {
        Due due = new Due();
        ProtectedLine line = new ProtectedLine(0, 0, 0, 2);
        deliverOne(due, line);
        goOver(due, line);
        goBack(due, line);
        due.end("ReadmeTest");
    }

    private static void deliverOne(Due due, ProtectedLine line) {
        due.is("tick(12)", line.tick(12), true);
        due.is("sync()", line.sync(), 2);
        due.is("send(2, 0x1234)", line.send(2, 0x1234), true);
        due.is("tick(5)", line.tick(5), true);
        due.is("delivered()", line.delivered(), 1);
        due.is("got(0, -1)", line.got(0, -1), 2);
        due.is("got(0, 0)", line.got(0, 0), 0x34);
    }

    private static void goOver(Due due, ProtectedLine line) {
        due.is("cut(0, true)", line.cut(0, true), true);
        due.is("tick(12)", line.tick(12), true);
        due.is("selected()", line.selected(), 1);
        due.is("send(1, 7)", line.send(1, 7), true);
        due.is("tick(5)", line.tick(5), true);
        due.is("got(0, 0)", line.got(0, 0), 7);
        due.is("got(1, 0)", line.got(1, 0), 0x34);
    }

    private static void goBack(Due due, ProtectedLine line) {
        due.is("cut(0, false)", line.cut(0, false), true);
        due.is("tick(4)", line.tick(4), true);
        due.is("selected()", line.selected(), 0);
    }
}
