import java.lang.reflect.Constructor;
import java.lang.reflect.Field;
import java.lang.reflect.Method;
import java.lang.reflect.Modifier;
import java.util.Set;
import java.util.TreeSet;

/** The public face, and promise 1: a new object. */
public final class FaceTest {
    private static final Set<String> METHODS = Set.of(
        "void feed(int,int,int,int,int)", "int end(int)", "int read(int)", "int fault(int)",
        "int tell(int)", "int letter(int)", "boolean cons(int,int,int)",
        "boolean side(int,int,int)", "boolean set(int,long)", "long number(int)",
        "int about(int,int)", "boolean same(int,int)", "boolean below(int,int)");

    public static void main(String[] args) {
        membersAreTheDocuments();
        classesInsideAreStatic();
        newObjectIsEmpty();
        objectsAreApart();
        Checks.finish();
    }

    private static void membersAreTheDocuments() {
        Set<String> open = new TreeSet<>();
        Set<String> openNames = new TreeSet<>();
        for (Method method : ObjectTexts.class.getDeclaredMethods()) {
            if (!Modifier.isPrivate(method.getModifiers())) {
                open.add(faceOf(method));
                openNames.add(method.getName());
                Checks.due(method + " is public", Modifier.isPublic(method.getModifiers()), true);
            }
        }
        Checks.due("methods", open.toString(), new TreeSet<>(METHODS).toString());
        for (Method method : ObjectTexts.class.getDeclaredMethods()) {
            boolean clash = Modifier.isPrivate(method.getModifiers())
                && openNames.contains(method.getName());
            Checks.due(method + " bears a public name", clash, false);
        }
        for (Field field : ObjectTexts.class.getDeclaredFields()) {
            boolean isPrivate = Modifier.isPrivate(field.getModifiers());
            Checks.due(field + " is open", !isPrivate, field.getName().equals("NONE"));
        }
        Constructor<?>[] constructors = ObjectTexts.class.getDeclaredConstructors();
        Checks.due("constructors", constructors.length, 1);
        Checks.due("constructor's arguments", constructors[0].getParameterCount(), 0);
        Checks.due("class is public and final", ObjectTexts.class.getModifiers(),
            Modifier.PUBLIC | Modifier.FINAL);
        Checks.due("NONE", ObjectTexts.NONE, -1);
    }

    private static String faceOf(Method method) {
        StringBuilder face = new StringBuilder();
        face.append(method.getReturnType()).append(' ').append(method.getName()).append('(');
        String comma = "";
        for (Class<?> type : method.getParameterTypes()) {
            face.append(comma).append(type);
            comma = ",";
        }
        return face.append(')').toString();
    }

    private static void classesInsideAreStatic() {
        for (Class<?> inside : ObjectTexts.class.getDeclaredClasses()) {
            int modifiers = inside.getModifiers();
            Checks.due(inside + " is static", Modifier.isStatic(modifiers), true);
            Checks.due(inside + " is public or protected",
                Modifier.isPublic(modifiers) || Modifier.isProtected(modifiers), false);
        }
    }

    private static void newObjectIsEmpty() {
        ObjectTexts x = new ObjectTexts();
        Checks.due("letter(0) of a new object", x.letter(0), -1);
        Checks.due("fault(0) of a new object", x.fault(0), 0);
        Checks.due("fault(1) of a new object", x.fault(1), -1);
        Checks.due("end(0) of a new object", x.end(0), 0);
        for (int p = 0; p < 8; p++) {
            Checks.due("place " + p, Checks.told(x, p), "nil");
            Checks.due("about(" + p + ", 0)", x.about(p, 0), 1);
            Checks.due("same(0, " + p + ")", x.same(0, p), true);
        }
        Checks.due("tell(8)", x.tell(8), -1);
    }

    private static void objectsAreApart() {
        ObjectTexts x = Checks.with("(a b)");
        ObjectTexts y = new ObjectTexts();
        Checks.due("the other's place", Checks.told(y, 0), "nil");
        Checks.due("the first one's OUT", x.letter(0), -1);
    }
}
