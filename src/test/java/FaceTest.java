import java.lang.reflect.Constructor;
import java.lang.reflect.Field;
import java.lang.reflect.Method;
import java.lang.reflect.Modifier;
import java.util.TreeSet;

/** The public face is the document's, and nothing else can be seen from outside. */
public final class FaceTest {
    private static final String[] FACE = {
        "public boolean MessageCrossbar.accept(int,boolean) throws java.lang.IllegalArgumentException",
        "public int MessageCrossbar.count(int)",
        "public int MessageCrossbar.done(int)",
        "public int MessageCrossbar.master(int,int) throws java.lang.IndexOutOfBoundsException,"
                + "java.lang.IllegalArgumentException",
        "public int MessageCrossbar.memory(int) throws java.lang.IndexOutOfBoundsException",
        "public int MessageCrossbar.owner(int,int) throws java.lang.IndexOutOfBoundsException",
        "public int MessageCrossbar.port(int,int) throws java.lang.IndexOutOfBoundsException,"
                + "java.lang.IllegalArgumentException",
        "public int MessageCrossbar.request(int,int,int,int,int,long,int) throws"
                + " java.lang.IllegalArgumentException",
        "public int MessageCrossbar.take(int) throws java.lang.IllegalArgumentException",
        "public int MessageCrossbar.tick(int) throws java.lang.IllegalArgumentException",
        "public long MessageCrossbar.data()",
        "public MessageCrossbar()",
        "public static final int MessageCrossbar.NONE",
    };

    public static void main(String[] args) {
        TreeSet<String> want = new TreeSet<>();
        for (String line : FACE) {
            want.add(line);
        }
        TreeSet<String> got = new TreeSet<>();
        for (Constructor<?> c : MessageCrossbar.class.getDeclaredConstructors()) {
            got.add(c.toGenericString());
        }
        for (Method m : MessageCrossbar.class.getDeclaredMethods()) {
            if (!Modifier.isPrivate(m.getModifiers())) {
                got.add(m.toGenericString());
            }
        }
        for (Field f : MessageCrossbar.class.getDeclaredFields()) {
            if (!Modifier.isPrivate(f.getModifiers())) {
                got.add(f.toGenericString());
            }
        }
        Check.due("the face", String.join("\n", got), String.join("\n", want));
        int modifiers = MessageCrossbar.class.getModifiers();
        Check.due("public and final", Modifier.isPublic(modifiers) && Modifier.isFinal(modifiers), true);
        Check.end();
    }
}
