import java.lang.reflect.Constructor;
import java.lang.reflect.Field;
import java.lang.reflect.Method;
import java.lang.reflect.Modifier;
import java.util.Arrays;
import java.util.TreeSet;

/** The face: just the document's members can be seen from outside (LANGUAGE.md, rules 1 and 5). */
public final class FaceTest {
    private static final String[] METHODS = {
        "int start(int,int)", "int move(int,int,int)", "int seen(int,int,int)", "int named(int,int)",
        "int force(int)", "int begin(int,long)", "int keep(int)", "int step(int,int)", "int again(int)",
        "int rule(int,int)", "int from(int)", "int row(int,int)", "long weight(int)",
        "int history(int,int) throws ArrayIndexOutOfBoundsException", "int write(int,int,int)",
        "long told(int)", "double evidence()", "int count(int)", "int clear()"
    };

    private static final Due due = new Due();

    public static void main(String[] args) throws Exception {
        Class<?> face = ResampledRows.class;
        due.is("public final", face.getModifiers(), Modifier.PUBLIC | Modifier.FINAL);
        methods(face);
        constants(face);
        constructors(face);
        nested(face);
        due.end();
    }

    private static void methods(Class<?> face) {
        TreeSet<String> seen = new TreeSet<>();
        TreeSet<String> names = new TreeSet<>();
        for (Method method : face.getDeclaredMethods()) {
            if (!Modifier.isPrivate(method.getModifiers())) {
                due.is(method.getName() + " is public and no more", method.getModifiers(), Modifier.PUBLIC);
                seen.add(text(method));
                names.add(method.getName());
            }
        }
        due.isText("methods", seen.toString(), new TreeSet<>(Arrays.asList(METHODS)).toString());
        for (Method method : face.getDeclaredMethods()) {
            if (Modifier.isPrivate(method.getModifiers()) && names.contains(method.getName())) {
                due.say("a private method bears the name " + method.getName());
            }
        }
    }

    private static String text(Method method) {
        StringBuilder text = new StringBuilder(method.getReturnType() + " " + method.getName() + "(");
        for (Class<?> parameter : method.getParameterTypes()) {
            text.append(text.charAt(text.length() - 1) == '(' ? "" : ",").append(parameter);
        }
        text.append(')');
        for (Class<?> thrown : method.getExceptionTypes()) {
            text.append(" throws ").append(thrown.getSimpleName());
        }
        return text.toString();
    }

    private static void constants(Class<?> face) throws Exception {
        TreeSet<String> seen = new TreeSet<>();
        for (Field field : face.getDeclaredFields()) {
            int modifiers = field.getModifiers();
            if (Modifier.isStatic(modifiers) && !Modifier.isFinal(modifiers)) {
                due.say("static, but not final: " + field.getName());
            }
            if (!Modifier.isPrivate(modifiers)) {
                due.is(field.getName(), modifiers, Modifier.PUBLIC | Modifier.STATIC | Modifier.FINAL);
                seen.add(field.getType() + " " + field.getName() + " " + field.get(null));
            }
        }
        due.isText("constants", seen.toString(),
                "[int GONE -1000003, int LOST -1000004, int MUCH -1000005, int NONE -1000009,"
                + " int OUTSIDE -1000002, int UNKNOWN -1000001]");
    }

    private static void constructors(Class<?> face) {
        due.is("constructors", face.getDeclaredConstructors().length, 1);
        for (Constructor<?> constructor : face.getDeclaredConstructors()) {
            due.is("its parameters", constructor.getParameterCount(), 0);
            due.is("it is public", constructor.getModifiers(), Modifier.PUBLIC);
        }
    }

    private static void nested(Class<?> face) {
        for (Class<?> inside : face.getDeclaredClasses()) {
            int modifiers = inside.getModifiers();
            if (!Modifier.isStatic(modifiers) || Modifier.isPublic(modifiers) || Modifier.isProtected(modifiers)) {
                due.say("not a private or package-visible static class: " + inside.getName());
            }
            if (inside.getDeclaredFields().length > 20) {
                due.say("more than twenty fields: " + inside.getName());
            }
            for (Field field : inside.getDeclaredFields()) {
                if (Modifier.isStatic(field.getModifiers()) && !Modifier.isFinal(field.getModifiers())) {
                    due.say("static, but not final: " + field.getName());
                }
            }
            methodsInside(face, inside);
        }
        due.is("some twelve classes at most", face.getDeclaredClasses().length <= 11 ? 1 : 0, 1);
    }

    private static void methodsInside(Class<?> face, Class<?> inside) {
        for (Method method : inside.getDeclaredMethods()) {
            if (method.getParameterCount() > 7) {
                due.say("more than seven parameters: " + method.getName());
            }
            for (Method open : face.getMethods()) {
                if (open.getName().equals(method.getName())) {
                    due.say(inside.getName() + " has a method that bears the name " + method.getName());
                }
            }
        }
    }
}
