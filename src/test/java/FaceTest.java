import java.lang.reflect.Constructor;
import java.lang.reflect.Field;
import java.lang.reflect.Method;
import java.lang.reflect.Modifier;
import java.util.Arrays;
import java.util.TreeSet;

/** The class has the document's face, and no member beside it that can be seen. */
public final class FaceTest {
    private static final String[] FACE = {
        "public ObjectRows()",
        "public int ObjectRows.make(int,int)",
        "public int ObjectRows.put(int,int,int)",
        "public int ObjectRows.get(int,int) throws java.lang.ArrayIndexOutOfBoundsException",
        "public int ObjectRows.part(int,int,int)",
        "public int ObjectRows.attribute(int,int,int)",
        "public int ObjectRows.told(int,int)",
        "public boolean ObjectRows.same(int,int)",
        "public int ObjectRows.compare(int,int)",
        "public int ObjectRows.length(int)",
        "public int ObjectRows.entry(int,int,int)",
        "public int ObjectRows.look(int,int)",
        "public int ObjectRows.kind(int)",
        "public int ObjectRows.used()",
        "public int ObjectRows.restore(int)",
    };

    public static void main(String[] args) {
        Due due = new Due();
        TreeSet<String> seen = new TreeSet<>();
        TreeSet<String> publicNames = new TreeSet<>();
        TreeSet<String> hiddenNames = new TreeSet<>();
        for (Constructor<?> c : ObjectRows.class.getDeclaredConstructors()) {
            seen.add(c.toString());
        }
        for (Method m : ObjectRows.class.getDeclaredMethods()) {
            if (Modifier.isPrivate(m.getModifiers())) {
                hiddenNames.add(m.getName());
            } else {
                seen.add(m.toString());
                publicNames.add(m.getName());
            }
        }
        for (Field f : ObjectRows.class.getDeclaredFields()) {
            due.yes("private " + f.getName(), Modifier.isPrivate(f.getModifiers()));
            boolean isStatic = Modifier.isStatic(f.getModifiers());
            due.yes("final " + f.getName(), !isStatic || Modifier.isFinal(f.getModifiers()));
        }
        for (Class<?> inside : ObjectRows.class.getDeclaredClasses()) {
            due.yes("static " + inside.getName(), Modifier.isStatic(inside.getModifiers()));
            for (Method m : inside.getDeclaredMethods()) {
                hiddenNames.add(m.getName());
            }
        }
        if (!seen.equals(new TreeSet<>(Arrays.asList(FACE)))) {
            due.tell("the face is " + seen);
        }
        publicNames.retainAll(hiddenNames);
        due.is("hidden methods with a public one's name " + publicNames, publicNames.size(), 0);
        due.yes("final", Modifier.isFinal(ObjectRows.class.getModifiers()));
        due.yes("public", Modifier.isPublic(ObjectRows.class.getModifiers()));
        due.end();
    }
}
