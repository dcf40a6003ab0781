import java.lang.reflect.Constructor;
import java.lang.reflect.Field;
import java.lang.reflect.Method;
import java.lang.reflect.Modifier;
import java.util.ArrayList;
import java.util.Collections;
import java.util.HashSet;
import java.util.List;
import java.util.Set;

/** The public face of the document, all of it and no more. */
final class FaceTest {
    private static final String[] FACE = {
        "public boolean CrashDesk.can(int,int,int) throws java.lang.IndexOutOfBoundsException",
        "public boolean CrashDesk.drop(int,boolean) throws java.lang.IndexOutOfBoundsException",
        "public boolean CrashDesk.fit(int)",
        "public int CrashDesk.avoided(int,int,int) throws java.lang.IndexOutOfBoundsException,"
            + "java.lang.IllegalArgumentException,java.util.NoSuchElementException",
        "public int CrashDesk.count(int)",
        "public int CrashDesk.hush()",
        "public int CrashDesk.look(int,int) throws java.lang.IndexOutOfBoundsException,"
            + "java.util.NoSuchElementException",
        "public int CrashDesk.odds()",
        "public int CrashDesk.skid(int,boolean,int,int,int,int) throws java.lang.IndexOutOfBoundsException,"
            + "java.lang.IllegalArgumentException,java.lang.UnsupportedOperationException",
        "public int CrashDesk.span(int,int,boolean,boolean) throws java.lang.IndexOutOfBoundsException,"
            + "java.util.NoSuchElementException",
        "public int CrashDesk.tale(int,int,int,int) throws java.lang.IndexOutOfBoundsException,"
            + "java.lang.IllegalArgumentException,java.lang.UnsupportedOperationException",
        "public int CrashDesk.which()",
        "public int CrashDesk.wrong()",
        "public long CrashDesk.ways()",
        "public void CrashDesk.mass(int,int) throws java.lang.IndexOutOfBoundsException,"
            + "java.lang.IllegalArgumentException",
        "public void CrashDesk.sure(int,int,int,int) throws java.lang.IndexOutOfBoundsException,"
            + "java.lang.IllegalArgumentException",
    };

    public static void main(String[] args) {
        Class<?> face = CrashDesk.class;
        Due.same("the class", "public final", Modifier.toString(face.getModifiers()));
        Due.same("the constant", -1, CrashDesk.NONE);
        methods(face);
        for (Field f : face.getDeclaredFields()) {
            boolean constant = f.getName().equals("NONE");
            Due.same("field " + f.getName(), constant ? "public static final" : "private",
                constant ? Modifier.toString(f.getModifiers()) : reach(f.getModifiers()));
        }
        for (Constructor<?> c : face.getDeclaredConstructors()) {
            Due.same("constructor", "public CrashDesk()", c.toGenericString());
        }
        for (Class<?> c : face.getDeclaredClasses()) {
            Due.same("class " + c.getName() + " reaches no further than the package", false,
                Modifier.isPublic(c.getModifiers()) || Modifier.isProtected(c.getModifiers()));
        }
        Due.end("FaceTest");
    }

    private static void methods(Class<?> face) {
        List<String> open = new ArrayList<>();
        Set<String> names = new HashSet<>();
        for (Method m : face.getDeclaredMethods()) {
            if (!reach(m.getModifiers()).equals("private")) {
                open.add(m.toGenericString());
                names.add(m.getName());
            }
        }
        Collections.sort(open);
        Due.same("the methods", List.of(FACE), open);
        for (Method m : face.getDeclaredMethods()) {
            if (reach(m.getModifiers()).equals("private")) {
                Due.same("private " + m.getName() + " bears a public name", false, names.contains(m.getName()));
            }
        }
    }

    private static String reach(int modifiers) {
        return Modifier.isPublic(modifiers) ? "public" : Modifier.isProtected(modifiers) ? "protected"
            : Modifier.isPrivate(modifiers) ? "private" : "package";
    }
}
