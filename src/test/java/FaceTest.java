import java.lang.reflect.Constructor;
import java.lang.reflect.Field;
import java.lang.reflect.Member;
import java.lang.reflect.Method;
import java.lang.reflect.Modifier;
import java.util.Arrays;
import java.util.Set;
import java.util.TreeSet;

/** The class has the constants, the constructor and the methods of the document's face, and no more. */
public final class FaceTest {
    private static final String[] FACE = {
        "public static final int SoleArrays.NONE",
        "public SoleArrays()",
        "public boolean SoleArrays.type(char)",
        "public int SoleArrays.define() throws java.lang.IllegalArgumentException,java.lang.IllegalStateException",
        "public int SoleArrays.place()",
        "public int SoleArrays.clear()",
        "public boolean SoleArrays.argument(int,long)",
        "public int SoleArrays.run(char) throws java.lang.IllegalArgumentException,java.lang.IllegalStateException,"
            + "java.lang.IndexOutOfBoundsException,java.lang.ArithmeticException,java.lang.UnsupportedOperationException",
        "public int SoleArrays.kind()",
        "public long SoleArrays.value()",
        "public int SoleArrays.size(int)",
        "public long SoleArrays.cell(int,int)",
        "public int SoleArrays.counted(int)",
    };

    public static void main(String[] args) {
        Set<String> face = new TreeSet<>();
        for (Field f : SoleArrays.class.getDeclaredFields()) {
            addUnlessPrivate(face, f, f.toString());
        }
        for (Constructor<?> c : SoleArrays.class.getDeclaredConstructors()) {
            addUnlessPrivate(face, c, c.toString());
        }
        for (Method m : SoleArrays.class.getDeclaredMethods()) {
            addUnlessPrivate(face, m, m.toString());
        }
        for (String member : FACE) {
            Trial.due("the face has " + member, face.remove(member) ? 1 : 0, 1);
        }
        Trial.due("the face has beside these " + face + ", which", face.size(), 0);
        Trial.due("NONE", SoleArrays.NONE, -1);
        Trial.due("the class is public and final", SoleArrays.class.getModifiers(), Modifier.PUBLIC | Modifier.FINAL);
        innerClasses();
        Trial.end();
    }

    private static void addUnlessPrivate(Set<String> face, Member member, String described) {
        if (!Modifier.isPrivate(member.getModifiers()) && !member.isSynthetic()) {
            face.add(described);
        }
    }

    private static void innerClasses() {
        Set<String> names = new TreeSet<>();
        Arrays.stream(SoleArrays.class.getDeclaredMethods()).filter(m -> Modifier.isPublic(m.getModifiers()))
                .forEach(m -> names.add(m.getName()));
        for (Class<?> inner : SoleArrays.class.getDeclaredClasses()) {
            int modifiers = inner.getModifiers();
            Trial.due(inner + " is static", Modifier.isStatic(modifiers) ? 1 : 0, 1);
            Trial.due(inner + " is public or protected", modifiers & (Modifier.PUBLIC | Modifier.PROTECTED), 0);
            for (Method m : inner.getDeclaredMethods()) {
                Trial.due(m + " bears a name of the face", names.contains(m.getName()) ? 1 : 0, 0);
            }
        }
    }
}
