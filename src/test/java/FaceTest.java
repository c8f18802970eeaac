import java.lang.reflect.Constructor;
import java.lang.reflect.Field;
import java.lang.reflect.Method;
import java.lang.reflect.Modifier;
import java.util.Arrays;
import java.util.Set;
import java.util.TreeSet;

/** The public face: every constant, constructor and method of the document, and nothing else that can be seen. */
final class FaceTest {
    private static final String[] METHODS = {
        "write(int)", "wipe()", "fault()", "lay()", "post(int)", "walker(int,int)", "thing(int,int)", "day(int,int)",
        "pass(int)", "walk(int,int)", "shut(int,boolean)", "undo()", "length()", "crooks(int)", "milestone(int)",
        "behind(int,int)", "door(int,int,int)", "mile(int)", "window(int,int)", "bent(int,int)",
        "found(int,int,int)", "forget()", "looked(int)", "fog()", "parishes(int,int,int,int,int)",
        "year(int,int,int)", "keep()", "back()", "count(int)"};

    private FaceTest() {
    }

    public static void main(String[] args) {
        Class<?> face = StraightWhenAlone.class;
        Check.that("public and final", Modifier.isPublic(face.getModifiers()) && Modifier.isFinal(face.getModifiers()));
        Set<String> publicNames = new TreeSet<>();
        Set<String> seen = new TreeSet<>();
        for (Method method : face.getDeclaredMethods()) {
            if (!Modifier.isPrivate(method.getModifiers())) {
                seen.add(shapeOf(method));
                publicNames.add(method.getName());
                Check.that(method + " answers an int", method.getReturnType() == int.class);
                Check.that(method + " is public", Modifier.isPublic(method.getModifiers()));
                Check.that(method + " is of an object", !Modifier.isStatic(method.getModifiers()));
            }
        }
        Check.that("methods " + seen, seen.equals(new TreeSet<>(Arrays.asList(METHODS))));
        noPrivateOneIsNamedSo(face, publicNames);
        constants(face);
        Constructor<?>[] made = face.getDeclaredConstructors();
        Check.due("constructors", made.length, 1);
        Check.due("their parameters", made[0].getParameterCount(), 0);
        Check.that("the constructor is public", Modifier.isPublic(made[0].getModifiers()));
        Check.end("FaceTest");
    }

    private static String shapeOf(Method method) {
        StringBuilder shape = new StringBuilder(method.getName()).append('(');
        String comma = "";
        for (Class<?> type : method.getParameterTypes()) {
            shape.append(comma).append(type.getName());
            comma = ",";
        }
        return shape.append(')').toString();
    }

    private static void noPrivateOneIsNamedSo(Class<?> face, Set<String> publicNames) {
        for (Method method : face.getDeclaredMethods()) {
            if (Modifier.isPrivate(method.getModifiers())) {
                Check.that(method.getName() + " is named as a public one", !publicNames.contains(method.getName()));
            }
        }
        for (Class<?> inside : face.getDeclaredClasses()) {
            Check.that(inside + " is static", Modifier.isStatic(inside.getModifiers()));
            Check.that(inside + " has 20 fields at most", inside.getDeclaredFields().length <= 20);
            for (Method method : inside.getDeclaredMethods()) {
                Check.that(inside + "." + method.getName(), !publicNames.contains(method.getName()));
            }
        }
    }

    private static void constants(Class<?> face) {
        Check.due("BAD", StraightWhenAlone.BAD, -1);
        Check.due("NO", StraightWhenAlone.NO, -2);
        Check.due("FULL", StraightWhenAlone.FULL, -3);
        Check.due("NONE", StraightWhenAlone.NONE, -4);
        int seen = 0;
        for (Field field : face.getDeclaredFields()) {
            seen += Modifier.isPrivate(field.getModifiers()) ? 0 : 1;
        }
        Check.due("fields that can be seen", seen, 4);
    }
}
