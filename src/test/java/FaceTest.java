import java.lang.reflect.Constructor;
import java.lang.reflect.Field;
import java.lang.reflect.Method;
import java.lang.reflect.Modifier;
import java.util.Arrays;
import java.util.TreeSet;

/** The class has the document's face, and no other member that is not private. */
public final class FaceTest {
    private static final String[] FACE = {
        "public int ProtectedLine.alignment(int)",
        "public boolean ProtectedLine.bridged()",
        "public boolean ProtectedLine.command(int)",
        "public boolean ProtectedLine.cut(int,boolean)",
        "public boolean ProtectedLine.damage(int,int,int)",
        "public int ProtectedLine.delivered()",
        "public boolean ProtectedLine.drift(int)",
        "public int ProtectedLine.dropped()",
        "public int ProtectedLine.errors(int)",
        "public int ProtectedLine.got(int,int)",
        "public int ProtectedLine.pathErrors()",
        "public int ProtectedLine.pointer()",
        "public int ProtectedLine.request()",
        "public int ProtectedLine.selected()",
        "public boolean ProtectedLine.send(int,long)",
        "public int ProtectedLine.sent(int,int)",
        "public int ProtectedLine.sync()",
        "public boolean ProtectedLine.tick(int)",
        "public int ProtectedLine.waiting()",
        "public ProtectedLine(int,int,int,int)",
    };

    public static void main(String[] args) {
        TreeSet<String> found = new TreeSet<>();
        for (Constructor<?> c : ProtectedLine.class.getDeclaredConstructors()) {
            found.add(c.toGenericString());
        }
        Due due = new Due();
        for (Method m : ProtectedLine.class.getDeclaredMethods()) {
            if (!Modifier.isPrivate(m.getModifiers())) {
                found.add(m.toGenericString());
            }
        }
        for (Field f : ProtectedLine.class.getDeclaredFields()) {
            if (!Modifier.isPrivate(f.getModifiers())) {
                found.add(f.toGenericString());
            }
        }
        TreeSet<String> face = new TreeSet<>(Arrays.asList(FACE));
        for (String member : found) {
            due.is("in the face: " + member, face.contains(member), true);
        }
        for (String member : face) {
            due.is("in the class: " + member, found.contains(member), true);
        }
        int modifiers = ProtectedLine.class.getModifiers();
        due.is("public", Modifier.isPublic(modifiers), true);
        due.is("final", Modifier.isFinal(modifiers), true);
        due.end("FaceTest");
    }
}
