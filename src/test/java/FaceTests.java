import java.lang.reflect.Constructor;
import java.lang.reflect.Field;
import java.lang.reflect.Method;
import java.lang.reflect.Modifier;
import java.util.Arrays;
import java.util.List;
import java.util.TreeSet;

/** The document's face and nothing beside it. */
public final class FaceTests {
    private static final List<String> METHODS = List.of("int write(int, long)", "int wipe()", "int fault()", "int lay()",
        "int person(int, int)", "int place(int, int)", "int row(int)", "int all(int)", "int cry(int, int)",
        "int suspect()", "int tell(int, int)", "int takeBack()", "int hush(int, int)", "int again(int, int)",
        "int game(int, int, int)", "int laws(int)", "long mean(int, int, int, int)", "long by(int, int, int, int, int)",
        "int best(int, int, int)", "int name(int, int)", "int noNames()", "int fits(int)", "int drawn(int, int)",
        "int keep()", "int back()", "int count(int)");
    private static int wrong = 0;

    private static void due(String what, Object got, Object want) {
        if (!got.equals(want)) {
            wrong++;
            System.out.println(what + ": there is " + got + ", due is " + want);
        }
    }

    private static String told(Method m) {
        String types = Arrays.toString(Arrays.stream(m.getParameterTypes()).map(Class::getName).toArray());
        return m.getReturnType().getName() + " " + m.getName() + "(" + types.substring(1, types.length() - 1) + ")";
    }

    /** No method that isn't of the face bears the name of one that is. */
    private static void dueWithinAreNoneOf(Class<?> within, TreeSet<String> open) {
        TreeSet<String> names = new TreeSet<>();
        for (String method : open) {
            names.add(method.replaceAll("^\\w+ |\\(.*", ""));
        }
        for (Method m : within.getDeclaredMethods()) {
            if (!open.contains(told(m)) || Modifier.isPrivate(m.getModifiers())) {
                due(within.getName() + "." + m.getName() + " bears a name of the face", names.contains(m.getName()), false);
            }
        }
    }

    public static void main(String[] args) {
        Class<?> face = QueueTurns.class;
        due("class", Modifier.toString(face.getModifiers()), "public final");
        TreeSet<String> open = new TreeSet<>();
        for (Method m : face.getDeclaredMethods()) {
            if (!Modifier.isPrivate(m.getModifiers())) {
                open.add(told(m));
                due(m.getName(), Modifier.toString(m.getModifiers()), "public");
            }
        }
        due("methods", open, new TreeSet<>(METHODS));
        TreeSet<String> fields = new TreeSet<>();
        for (Field f : face.getDeclaredFields()) {
            if (!Modifier.isPrivate(f.getModifiers())) {
                fields.add(Modifier.toString(f.getModifiers()) + " " + f.getType() + " " + f.getName());
            }
        }
        due("constants", fields, new TreeSet<>(List.of("public static final int BAD", "public static final int NO",
            "public static final int FULL", "public static final int NONE")));
        Constructor<?>[] constructors = face.getDeclaredConstructors();
        due("constructors", constructors.length, 1);
        due("constructor", constructors[0].toString(), "public QueueTurns()");
        due("class above", face.getSuperclass(), Object.class);
        due("interfaces", face.getInterfaces().length, 0);
        dueWithinAreNoneOf(face, open);
        for (Class<?> inside : face.getDeclaredClasses()) {
            int how = inside.getModifiers();
            due(inside.getName(), Modifier.isStatic(how), true);
            due(inside.getName() + " is open", Modifier.isPublic(how) || Modifier.isProtected(how), false);
            dueWithinAreNoneOf(inside, open);
        }
        due("BAD", QueueTurns.BAD, -1);
        due("NO", QueueTurns.NO, -2);
        due("FULL", QueueTurns.FULL, -3);
        due("NONE", QueueTurns.NONE, -4);
        System.out.println(wrong == 0 ? "the face is as due" : wrong + " faults of the face");
        if (wrong != 0) {
            System.exit(1);
        }
    }
}
