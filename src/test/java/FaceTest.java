import java.lang.reflect.Constructor;
import java.lang.reflect.Field;
import java.lang.reflect.Method;
import java.lang.reflect.Modifier;
import java.util.ArrayList;
import java.util.Arrays;
import java.util.List;
import java.util.Set;
import java.util.TreeSet;

/** The public face is the document's, and no other member of the class can be seen (rules 1, 2, 5 and 11). */
public final class FaceTest {
    private static final String I = " throws IndexOutOfBoundsException";
    private static final String A = " throws IllegalArgumentException";
    private static final String IA = I + ",IllegalArgumentException";
    private static final String IS = I + ",IllegalStateException";
    private static final List<String> FACE = List.of(
        "public boolean point(int,int,double,double,double)" + IA,
        "public double distance(int,int,int,int)" + I,
        "public int unroll(int)" + IS,
        "public double flat(int,int,int)" + IS,
        "public double stretch(int,int)" + IS,
        "public int worst(int)" + IS,
        "public double bevel(int,int)" + I,
        "public double width(int,int)" + I,
        "public double girth(int)" + I,
        "public boolean butt(int,int,boolean)" + I,
        "public boolean spans(int)" + A,
        "public int board(double,double)" + A + ",IllegalStateException",
        "public boolean fault(int,double,double,double,double)" + IA,
        "public int nest(int,int)" + IS,
        "public int lies(int,int)" + I,
        "public int staves(double,double)" + A,
        "public double closes(int,double,double)" + A);
    private static final Set<Class<?>> CONSTANT_TYPES = Set.of(int.class, long.class, boolean.class, char.class,
        String.class, int[].class, long[].class, char[].class, byte[].class);

    public static void main(String[] args) {
        Class<PlankUnroll> face = PlankUnroll.class;
        Due.same("modifiers", Modifier.PUBLIC | Modifier.FINAL, face.getModifiers());
        methods(face);
        Due.same("constructors", "[public PlankUnroll(int,int)]", Arrays.toString(face.getDeclaredConstructors()));
        fields(face);
        Class<?>[] inside = face.getDeclaredClasses();
        Due.same("some twelve classes", true, inside.length <= 12);
        for (Class<?> each : inside) {
            int modifiers = each.getModifiers();
            boolean hidden = !Modifier.isPublic(modifiers) && !Modifier.isProtected(modifiers);
            Due.same(each + " is hidden and static", true, hidden && Modifier.isStatic(modifiers));
            fields(each);
            parameters(each);
        }
        parameters(face);
        Due.end("FaceTest");
    }

    private static void methods(Class<?> face) {
        Set<String> open = new TreeSet<>();
        Set<String> openNames = new TreeSet<>();
        for (Method each : face.getDeclaredMethods()) {
            if (!Modifier.isPrivate(each.getModifiers())) {
                open.add(each.toString().replace("PlankUnroll.", "").replace("java.lang.", ""));
                openNames.add(each.getName());
            }
        }
        Due.same("methods", new TreeSet<>(FACE).toString(), open.toString());
        List<Class<?>> all = new ArrayList<>(Arrays.asList(face.getDeclaredClasses()));
        all.add(face);
        for (Class<?> each : all) {
            for (Method method : each.getDeclaredMethods()) {
                boolean ofTheFace = each == face && Modifier.isPublic(method.getModifiers());
                Due.same(method + " has a name of its own", true, ofTheFace || !openNames.contains(method.getName()));
            }
        }
    }

    private static void fields(Class<?> of) {
        int own = 0;
        for (Field each : of.getDeclaredFields()) {
            int modifiers = each.getModifiers();
            if (Modifier.isStatic(modifiers)) {
                boolean constant = Modifier.isFinal(modifiers) && CONSTANT_TYPES.contains(each.getType());
                Due.same(each + " is a constant", true, constant);
            } else {
                own++;
            }
            boolean open = of == PlankUnroll.class && !Modifier.isPrivate(modifiers);
            Due.same(each + " is of the face", open, each.toString().equals("public static final int PlankUnroll.NONE"));
        }
        Due.same("some twenty fields in " + of, true, own <= 20);
    }

    private static void parameters(Class<?> of) {
        for (Method each : of.getDeclaredMethods()) {
            Due.same(each + " takes at most seven", true, each.getParameterCount() <= 7);
        }
        for (Constructor<?> each : of.getDeclaredConstructors()) {
            Due.same(each + " takes at most seven", true, each.getParameterCount() <= 7);
        }
    }
}
