import java.lang.reflect.Constructor;
import java.lang.reflect.Field;
import java.lang.reflect.Method;
import java.lang.reflect.Modifier;
import java.util.Arrays;
import java.util.TreeSet;

/** The public face is the document's, and no more; the calls keep to it in any state. */
final class FaceTest {
    private static final Due DUE = new Due("FaceTest");
    private static final String[] FACE = {
        "int box(int, int, int, int, int)", "int changed(int, int)", "int copy(int, int, int, int, int)",
        "int count(int, int)", "int drop(int)", "int fit(int)", "int grid(int, int, int)",
        "int grow(int, int, int, int)", "int hand(int, int, int)", "int item(int, int, int, int)", "int job(int)",
        "int lines(int, int, boolean)", "int lose(int, int)", "int points(int, int, int, int, int)",
        "int roofs(int, int, int)", "int sheet(int, int, int)", "int shift(int, int, int)", "int thirds(int)",
        "int told(int, int, int)", "int type(long, int)", "long leftOver(int)", "long volume(int, int)",
    };

    public static void main(String[] args) {
        methodsAreOfTheFace();
        constantsAreOfTheFace();
        classesInsideAreSmall();
        objectsAreApart();
        DUE.end();
    }

    private static void methodsAreOfTheFace() {
        TreeSet<String> found = new TreeSet<>();
        TreeSet<String> names = new TreeSet<>();
        for (Method m : RayGround.class.getDeclaredMethods()) {
            if (Modifier.isPrivate(m.getModifiers())) {
                continue;
            }
            DUE.holds(m.getName() + " is public and no static one", m.getModifiers() == Modifier.PUBLIC);
            String types = Arrays.toString(Arrays.stream(m.getParameterTypes()).map(Class::getName).toArray());
            found.add(m.getReturnType() + " " + m.getName() + "(" + types.substring(1, types.length() - 1) + ")");
            names.add(m.getName());
        }
        DUE.holds("the methods " + found, found.equals(new TreeSet<>(Arrays.asList(FACE))));
        for (Method m : RayGround.class.getDeclaredMethods()) {
            DUE.holds("no private " + m.getName(), !Modifier.isPrivate(m.getModifiers()) || !names.contains(m.getName()));
        }
        for (Constructor<?> c : RayGround.class.getDeclaredConstructors()) {
            DUE.holds("the constructor", c.getParameterCount() == 0 && Modifier.isPublic(c.getModifiers()));
        }
        DUE.is("the class", RayGround.class.getModifiers(), Modifier.PUBLIC | Modifier.FINAL);
    }

    private static void constantsAreOfTheFace() {
        TreeSet<String> found = new TreeSet<>();
        for (Field f : RayGround.class.getDeclaredFields()) {
            if (!Modifier.isPrivate(f.getModifiers())) {
                DUE.is(f.getName(), f.getModifiers(), Modifier.PUBLIC | Modifier.STATIC | Modifier.FINAL);
                found.add(f.getType() + " " + f.getName());
            } else if (Modifier.isStatic(f.getModifiers())) {
                DUE.holds(f.getName() + " is final", Modifier.isFinal(f.getModifiers()));
            }
        }
        DUE.holds("the constants " + found, found.equals(new TreeSet<>(Arrays.asList("int BAD", "int NOT", "int FULL",
            "int NULL", "int CAST", "int INDEX", "int SIZE"))));
        for (Class<?> inside : RayGround.class.getDeclaredClasses()) {
            DUE.holds(inside.getName() + " is static", Modifier.isStatic(inside.getModifiers()));
            DUE.holds(inside.getName() + " is hidden",
                !Modifier.isPublic(inside.getModifiers()) && !Modifier.isProtected(inside.getModifiers()));
        }
    }

    // LANGUAGE.md, rules 1 and 11: no name of the face stands inside, and a class has some twenty fields at most.
    private static void classesInsideAreSmall() {
        TreeSet<String> names = new TreeSet<>();
        for (String call : FACE) {
            names.add(call.replaceAll("^\\w+ (\\w+)\\(.*", "$1"));
        }
        DUE.is("names of the face", names.size(), FACE.length);
        DUE.holds("fields of RayGround", fieldsOf(RayGround.class) <= 20);
        for (Class<?> inside : RayGround.class.getDeclaredClasses()) {
            DUE.holds("fields of " + inside.getName(), fieldsOf(inside) <= 20);
            for (Method m : inside.getDeclaredMethods()) {
                DUE.holds(inside.getName() + " has no " + m.getName(), !names.contains(m.getName()));
            }
        }
    }

    private static long fieldsOf(Class<?> type) {
        return Arrays.stream(type.getDeclaredFields()).filter(f -> !Modifier.isStatic(f.getModifiers())).count();
    }

    // What is done with one object is not seen in another.
    private static void objectsAreApart() {
        RayGround g = new RayGround();
        RayGround h = new RayGround();
        Due.put(g, 0, 1, 1, 1, 1);
        g.hand(0, 0, 1);
        g.shift(1, 1, 5);
        g.lose(1, 3);
        g.type('F', 1);
        DUE.is("points", h.count(0, 11), 0);
        DUE.is("sheets", h.drop(3), -11);
        DUE.is("grid", h.grid(0, 0, 0), 100000);
        DUE.is("shift", h.shift(1, 1, 0), 0);
        DUE.is("tiles", h.count(1, 12), 0);
        DUE.is("tape", h.job(0), -20);
    }
}
