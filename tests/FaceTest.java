import java.lang.reflect.Constructor;
import java.lang.reflect.Field;
import java.lang.reflect.Method;
import java.lang.reflect.Modifier;
import java.util.ArrayList;
import java.util.Arrays;
import java.util.HashSet;
import java.util.List;
import java.util.Set;

/** The public face of the class is the document's, and nothing more (rules 1, 5 and 11). */
public final class FaceTest {
    private static final String[] FACE = {
        "int status()", "long top()", "long bottom()", "boolean tray(int,int,int)",
        "boolean write(int,int,long)", "long read(int,int)", "boolean pour(int,int,int,int,int)",
        "boolean put(int,int,int)", "boolean strike(int,int,int)", "int pack(int,int)",
        "int truly(int,int)", "int rows(int,int)", "int make(int,int,int,int)", "boolean away(int)",
        "int sketch(int,int)", "int span(int,int,int)", "int heavy(int,int)", "int split(int,int)",
        "boolean melt(int,int)", "int keep(int)", "int together(int,int)", "int drifts(int)",
        "int guess(int,int,int)", "int bound(int,int,int,boolean)", "int join(int,int)",
        "int harm(int,int,int,int,int,int)", "boolean sample(int,int,int)", "int drawn(int,int)"};

    public static void main(String[] args) {
        Class<?> c = SpanSketch.class;
        Check.due("public and final", c.getModifiers(), Modifier.PUBLIC | Modifier.FINAL);
        Set<String> want = new HashSet<>(Arrays.asList(FACE));
        Set<String> got = new HashSet<>();
        Set<String> names = new HashSet<>();
        for (Method m : c.getDeclaredMethods()) {
            if (Modifier.isPublic(m.getModifiers())) {
                got.add(signature(m));
                names.add(m.getName());
            } else {
                Check.due(m + " is private", Modifier.isPrivate(m.getModifiers()), true);
            }
        }
        Check.due("the methods of the face: " + got, got.equals(want), true);
        for (Constructor<?> k : c.getDeclaredConstructors()) {
            Check.due("parameters of the constructor", k.getParameterCount(), 0);
        }
        for (Field f : c.getDeclaredFields()) {
            Check.due(f + " is private", Modifier.isPrivate(f.getModifiers()), !f.getName().equals("NONE"));
        }
        for (Class<?> inside : all(c)) {
            lookAt(inside, names);
        }
        Check.due("few classes", all(c).size() <= 12, true);
        Check.end();
    }

    private static String signature(Method m) {
        List<String> types = new ArrayList<>();
        for (Class<?> p : m.getParameterTypes()) {
            types.add(p.getName());
        }
        return m.getReturnType().getName() + " " + m.getName() + "(" + String.join(",", types) + ")";
    }

    private static List<Class<?>> all(Class<?> c) {
        List<Class<?>> classes = new ArrayList<>();
        classes.add(c);
        classes.addAll(Arrays.asList(c.getDeclaredClasses()));
        return classes;
    }

    private static void lookAt(Class<?> c, Set<String> publicNames) {
        int fields = 0;
        for (Field f : c.getDeclaredFields()) {
            boolean isStatic = Modifier.isStatic(f.getModifiers());
            Check.due(f + ": static is final", !isStatic || Modifier.isFinal(f.getModifiers()), true);
            fields += isStatic ? 0 : 1;
        }
        Check.due("few fields in " + c, fields <= 20, true);
        for (Method m : c.getDeclaredMethods()) {
            Check.due(m + ": seven parameters at most", m.getParameterCount() <= 7, true);
            Check.due(m + ": no private method bears a public one's name",
                publicNames.contains(m.getName()), Modifier.isPublic(m.getModifiers()));
        }
        if (c != SpanSketch.class) {
            Check.due(c + " is static", Modifier.isStatic(c.getModifiers()), true);
            Check.due(c + " is private", Modifier.isPrivate(c.getModifiers()), true);
        }
    }
}
