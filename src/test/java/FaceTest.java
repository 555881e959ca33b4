import java.lang.reflect.Field;
import java.lang.reflect.Method;
import java.lang.reflect.Modifier;
import java.util.TreeSet;

/** The public face: its very members, with what they declare to throw. */
final class FaceTest {
    private static final String[] DUE = {
        "about(int) RANGE", "append(int) RANGE NOT_NOW", "boat(int,int,int) NO_SUCH RANGE NOT_NOW",
        "boatOf(int,int) NO_SUCH RANGE", "claim(int,int) NO_SUCH", "clearText()", "endsIn(int,int) NO_SUCH RANGE NOT_NOW",
        "errorPosition()", "gutter(int,int,int,int) NO_SUCH RANGE NOT_NOW", "gutterOf(int,int) NO_SUCH RANGE",
        "hook(int,int,int) NO_SUCH", "launch(int,int) NO_SUCH NOT_NOW", "leastFolds(int,int) NO_SUCH RANGE",
        "load() NOT_NOW", "minutes(int) RANGE", "ownerOf(int,int) NO_SUCH RANGE", "restore(int) NO_SUCH NOT_NOW",
        "runScript(int,long) RANGE", "save(int) NO_SUCH", "set(int,int) RANGE", "setting(int) RANGE",
        "simulate(long,int) RANGE", "undo() NOT_NOW", "way(int,int,int) NO_SUCH RANGE", "why(int,int) NO_SUCH", "winner()",
    };

    private FaceTest() {
    }

    static void rule01_theFaceIsTheDocuments() {
        TreeSet<String> got = new TreeSet<>();
        TreeSet<String> names = new TreeSet<>();
        for (Method method : GutterBoats.class.getDeclaredMethods()) {
            if (Modifier.isPublic(method.getModifiers())) {
                got.add(written(method));
                names.add(method.getName());
                Check.same("what " + method.getName() + " answers", method.getReturnType().getName(), "int");
            }
        }
        TreeSet<String> due = new TreeSet<>();
        for (String line : DUE) {
            due.add(line);
        }
        Check.same("the face", got.toString(), due.toString());
        othersArePrivate(names);
    }

    private static void othersArePrivate(TreeSet<String> publicNames) {
        for (Method method : GutterBoats.class.getDeclaredMethods()) {
            int modifiers = method.getModifiers();
            if (!Modifier.isPublic(modifiers) && !Modifier.isPrivate(modifiers)) {
                throw new Check.Wrong(method + " is neither public nor private");
            }
            if (!Modifier.isPublic(modifiers) && publicNames.contains(method.getName())) {
                throw new Check.Wrong(method + " bears the name of a public method");
            }
        }
        for (Field field : GutterBoats.class.getDeclaredFields()) {
            boolean none = field.getName().equals("NONE") && Modifier.isPublic(field.getModifiers());
            if (!none && !Modifier.isPrivate(field.getModifiers())) {
                throw new Check.Wrong(field + " is not private");
            }
        }
        for (Class<?> inside : GutterBoats.class.getDeclaredClasses()) {
            if (!Modifier.isPrivate(inside.getModifiers()) || !Modifier.isStatic(inside.getModifiers())) {
                throw new Check.Wrong(inside + " is not private and static");
            }
            for (Method method : inside.getDeclaredMethods()) {
                if (publicNames.contains(method.getName())) {
                    throw new Check.Wrong(method + " bears the name of a public method");
                }
            }
        }
        Check.due("constructors", GutterBoats.class.getDeclaredConstructors().length, 1);
        Check.due("public and final", GutterBoats.class.getModifiers(), Modifier.PUBLIC | Modifier.FINAL);
    }

    private static String written(Method method) {
        StringBuilder s = new StringBuilder(method.getName()).append('(');
        for (Class<?> type : method.getParameterTypes()) {
            s.append(s.charAt(s.length() - 1) == '(' ? "" : ",").append(type.getName());
        }
        s.append(')');
        for (Class<?> type : method.getExceptionTypes()) {
            s.append(type == Check.NO_SUCH ? " NO_SUCH" : type == Check.RANGE ? " RANGE" : " NOT_NOW");
        }
        return s.toString();
    }
}
