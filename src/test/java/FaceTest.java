import java.lang.reflect.Constructor;
import java.lang.reflect.Field;
import java.lang.reflect.Method;
import java.lang.reflect.Modifier;
import java.util.Set;
import java.util.TreeSet;

/** The public face, and promise 1: a new object. */
public final class FaceTest {
    private static final Set<String> METHODS = Set.of(
        "void feed(int,int,int,int,int)", "int end(int)", "int read(int)", "int fault(int)",
        "int tell(int)", "int letter(int)", "boolean cons(int,int,int)",
        "boolean side(int,int,int)", "boolean set(int,long)", "long number(int)",
        "int about(int,int)", "boolean same(int,int)", "boolean below(int,int)");

    public static void main(String[] args) {
        methodsAreTheDocuments();
        fieldsAndConstructorsAreTheDocuments();
        classesInsideAreStatic();
        newObjectHasNilInItsPlaces();
        newObjectHasNoText();
        newObjectHasNoOut();
        thereAreEightPlaces();
        objectsAreApart();
        Checks.finish();
    }

    private static void methodsAreTheDocuments() {
        Checks.sentence("All promises (The public face)", "public final class ObjectTexts {");
        Set<String> open = new TreeSet<>();
        Set<String> openNames = new TreeSet<>();
        for (Method method : ObjectTexts.class.getDeclaredMethods()) {
            if (!Modifier.isPrivate(method.getModifiers())) {
                open.add(faceOf(method));
                openNames.add(method.getName());
                Checks.due(method + " is public, nothing else", method.getModifiers(),
                    Modifier.PUBLIC);
            }
        }
        Checks.due("methods", open.toString(), new TreeSet<>(METHODS).toString());
        for (Method method : ObjectTexts.class.getDeclaredMethods()) {
            boolean clash = Modifier.isPrivate(method.getModifiers())
                && openNames.contains(method.getName());
            Checks.due(method + " bears a public name", clash, false);
        }
    }

    private static String faceOf(Method method) {
        StringBuilder face = new StringBuilder();
        face.append(method.getReturnType()).append(' ').append(method.getName()).append('(');
        String comma = "";
        for (Class<?> type : method.getParameterTypes()) {
            face.append(comma).append(type);
            comma = ",";
        }
        return face.append(')').toString();
    }

    private static void fieldsAndConstructorsAreTheDocuments() {
        Checks.sentence("All promises (The public face)", "public static final int NONE = -1;");
        Checks.due("NONE", ObjectTexts.NONE, -1);
        for (Field field : ObjectTexts.class.getDeclaredFields()) {
            boolean isPrivate = Modifier.isPrivate(field.getModifiers());
            Checks.due(field + " is open", !isPrivate, field.getName().equals("NONE"));
        }
        Checks.sentence("All promises (The public face)", "public ObjectTexts();");
        Constructor<?>[] constructors = ObjectTexts.class.getDeclaredConstructors();
        Checks.due("constructors", constructors.length, 1);
        Checks.due("constructor's arguments", constructors[0].getParameterCount(), 0);
        Checks.due("constructor is public", constructors[0].getModifiers(), Modifier.PUBLIC);
        Checks.due("class is public and final", ObjectTexts.class.getModifiers(),
            Modifier.PUBLIC | Modifier.FINAL);
    }

    private static void classesInsideAreStatic() {
        Checks.sentence("All promises (The public face)", "public final class ObjectTexts {");
        for (Class<?> inside : ObjectTexts.class.getDeclaredClasses()) {
            int modifiers = inside.getModifiers();
            Checks.due(inside + " is static", Modifier.isStatic(modifiers), true);
            Checks.due(inside + " is public or protected",
                Modifier.isPublic(modifiers) || Modifier.isProtected(modifiers), false);
        }
    }

    private static void newObjectHasNilInItsPlaces() {
        Checks.sentence("Promise 1", "Nil in all PLACES;");
        Run run = new Run();
        for (int p = 0; p < 8; p++) {
            run.about(p, 0, 1);
            run.about(p, 2, 0);
            run.same(0, p, true);
            run.isTold(p, "nil");
        }
        // The nil that is read is the same one.
        run.read(3, "nil", 0);
        run.same(3, 4, true);
    }

    private static void newObjectHasNoText() {
        Checks.sentence("Promise 1", "no TEXT,");
        new Run().end(0, 0);
        Run one = new Run();
        one.feed("a");
        one.end(1, 1);
        Run none = new Run();
        none.read(0, 3);
        none.fault(1, 0);
    }

    private static void newObjectHasNoOut() {
        Checks.sentence("Promise 1", "OUT is empty.");
        new Run().hasOut("");
        Checks.sentence("Promise 7 (Terms)", "OUT is empty at first.");
        Run run = new Run();
        for (int k : new int[] {0, 1, -1, 1999, 2000, Integer.MAX_VALUE, Integer.MIN_VALUE}) {
            run.letter(k, Run.NONE);
        }
    }

    private static void thereAreEightPlaces() {
        Checks.sentence("All promises (Terms)",
            "There are eight PLACES, 0 .. 7, with an object each (nil at first).");
        Run run = new Run();
        for (int p = 0; p < 8; p++) {
            run.set(p, 100 + p, true);
        }
        for (int p = 0; p < 8; p++) {
            run.number(p, 100 + p);
        }
        for (int p : Run.NO_PLACES) {
            run.set(p, 5, false);
            run.number(p, Run.NONE);
            run.tell(p, Run.NONE);
        }
        for (int p = 0; p < 8; p++) {
            run.number(p, 100 + p);
        }
    }

    private static void objectsAreApart() {
        Checks.sentence("Promise 1", "Nil in all PLACES; no TEXT, OUT is empty.");
        Run first = Run.with("(a b)");
        first.feed("x");
        first.write("(a");
        first.isTold(0, "(a b)");
        first.feed("y");
        Run second = new Run();
        second.hasOut("");
        second.end(0, 0);
        second.fault(0, 0);
        second.fault(1, Run.NONE);
        second.isTold(0, "nil");
        first.hasOut("(a b)");
        first.end(1, 3);
    }
}
