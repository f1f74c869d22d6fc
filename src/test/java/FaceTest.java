import java.lang.reflect.Constructor;
import java.lang.reflect.Field;
import java.lang.reflect.Method;
import java.lang.reflect.Modifier;
import java.util.Arrays;
import java.util.Set;
import java.util.TreeSet;

/** The public face is the document's and nothing more; static fields are final (rules 1 and 5). */
public final class FaceTest {
    private static final String ILLEGAL = " throws java.lang.IllegalArgumentException";
    private static final Set<String> DUE = new TreeSet<>(Arrays.asList(
        "public void NumberCircuits.constant(int,int)" + ILLEGAL,
        "public void NumberCircuits.unknown(int,int,int,int)" + ILLEGAL,
        "public void NumberCircuits.reckon(int,int,int,int)" + ILLEGAL,
        "public int NumberCircuits.compare(int,int,int,int)" + ILLEGAL,
        "public void NumberCircuits.choose(int,int,int,int)" + ILLEGAL,
        "public int NumberCircuits.join(int,int,int,int)" + ILLEGAL,
        "public int NumberCircuits.value(int,int)" + ILLEGAL,
        "public int NumberCircuits.way(int)" + ILLEGAL + ",java.util.NoSuchElementException",
        "public boolean NumberCircuits.same(int,int)" + ILLEGAL,
        "public int NumberCircuits.tidy(int)" + ILLEGAL));

    private static final Set<Class<?>> STATIC_TYPES = Set.of(int.class, long.class, boolean.class, char.class,
        String.class, int[].class, long[].class, char[].class, byte[].class);

    private static final Checks checks = new Checks();

    public static void main(String[] args) {
        Class<?> face = NumberCircuits.class;
        checks.isTrue("public and final", face.getModifiers() == (Modifier.PUBLIC | Modifier.FINAL));
        checks.isTrue("no package", face.getPackageName().isEmpty());
        checks.isTrue("nothing inherited but from Object", face.getSuperclass() == Object.class);
        checks.equal("interfaces", face.getInterfaces().length, 0);
        methods(face);
        fields(face);
        Constructor<?>[] made = face.getDeclaredConstructors();
        checks.equal("constructors", made.length, 1);
        checks.isTrue("the constructor", made[0].toString().equals("public NumberCircuits()"));
        inside(face);
        checks.finish();
    }

    private static void methods(Class<?> face) {
        Set<String> open = new TreeSet<>();
        Set<String> openNames = new TreeSet<>();
        for (Method m : face.getDeclaredMethods()) {
            if (!Modifier.isPrivate(m.getModifiers())) {
                open.add(m.toString());
                openNames.add(m.getName());
            }
        }
        checks.isTrue("the methods " + open, open.equals(DUE));
        for (Method m : face.getDeclaredMethods()) {
            if (Modifier.isPrivate(m.getModifiers())) {
                checks.isTrue("a name of its own for " + m, !openNames.contains(m.getName()));
            }
        }
    }

    private static void fields(Class<?> face) {
        for (Field f : face.getDeclaredFields()) {
            checks.isTrue("private: " + f, Modifier.isPrivate(f.getModifiers()));
            if (Modifier.isStatic(f.getModifiers())) {
                checks.isTrue("final: " + f, Modifier.isFinal(f.getModifiers()));
                checks.isTrue("of a type that rule 5 names: " + f, STATIC_TYPES.contains(f.getType()));
            }
        }
    }

    private static void inside(Class<?> face) {
        for (Class<?> own : face.getDeclaredClasses()) {
            int open = own.getModifiers() & (Modifier.PUBLIC | Modifier.PROTECTED);
            checks.isTrue("not open: " + own, open == 0);
            checks.isTrue("static: " + own, Modifier.isStatic(own.getModifiers()));
        }
    }
}
