import java.lang.reflect.Constructor;
import java.lang.reflect.Field;
import java.lang.reflect.Method;
import java.lang.reflect.Modifier;
import java.util.Arrays;
import java.util.Set;
import java.util.TreeSet;

/** The face is the document's, and nothing else of the class can be seen (LANGUAGE.md, rules 1 and 5). */
public final class TimeNetFaceTest {
    private static final Set<String> FACE = new TreeSet<>(Arrays.asList(
            "public static final int TimeNet.NONE",
            "public static final int TimeNet.REFUSED",
            "public TimeNet()",
            "public int TimeNet.add(int,int,long)",
            "public boolean TimeNet.off(int)",
            "public int TimeNet.on(int)",
            "public long TimeNet.bound(int,int) throws java.util.NoSuchElementException",
            "public int TimeNet.steps(int,int)",
            "public int TimeNet.path(int,int)",
            "public int TimeNet.row()",
            "public int TimeNet.rowAt(int)",
            "public long TimeNet.length()",
            "public long TimeNet.earliest(int) throws java.util.NoSuchElementException",
            "public long TimeNet.slack(int)",
            "public int TimeNet.alive()"));

    private static int wrong = 0;

    public static void main(String[] args) {
        Set<String> seen = new TreeSet<>();
        Set<String> publicNames = new TreeSet<>();
        for (Field f : TimeNet.class.getDeclaredFields()) {
            if (!Modifier.isPrivate(f.getModifiers())) seen.add(f.toGenericString());
            if (Modifier.isStatic(f.getModifiers())) check(Modifier.isFinal(f.getModifiers()), f + " is not final");
        }
        for (Constructor<?> c : TimeNet.class.getDeclaredConstructors()) {
            if (!Modifier.isPrivate(c.getModifiers())) seen.add(c.toGenericString());
        }
        for (Method m : TimeNet.class.getDeclaredMethods()) {
            if (Modifier.isPrivate(m.getModifiers())) continue;
            seen.add(m.toGenericString());
            publicNames.add(m.getName());
        }
        for (Method m : TimeNet.class.getDeclaredMethods()) {
            boolean hidden = Modifier.isPrivate(m.getModifiers());
            check(!hidden || !publicNames.contains(m.getName()), m + " bears the name of a public method");
        }
        for (String member : FACE) check(seen.contains(member), "missing: " + member);
        for (String member : seen) check(FACE.contains(member), "not of the face: " + member);
        int modifiers = TimeNet.class.getModifiers();
        check(Modifier.isPublic(modifiers) && Modifier.isFinal(modifiers), "the class is not public and final");
        System.out.println(wrong == 0 ? "the face is as due" : wrong + " things are not as due");
        if (wrong != 0) System.exit(1);
    }

    private static void check(boolean holds, String otherwise) {
        if (!holds) {
            wrong++;
            System.out.println(otherwise);
        }
    }
}
