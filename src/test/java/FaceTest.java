import java.lang.reflect.Constructor;
import java.lang.reflect.Field;
import java.lang.reflect.Method;
import java.lang.reflect.Modifier;
import java.util.Set;
import java.util.TreeSet;

/** The class has the document's face and nothing else that could be seen from outside. */
public final class FaceTest {
    private static final Set<String> DUE = Set.of(
            "int domain(int,boolean)", "boolean address(int,int)", "boolean exchanger(int,int)",
            "int term(int,int,int,int,int)", "boolean key(int,int,int)",
            "boolean wish(int,int,int,boolean,boolean)", "int check(int,int)", "int queries()",
            "int empties()", "boolean type(char)", "boolean list(char)", "void clear()",
            "int fields()", "int length(boolean,boolean)", "int at(boolean,boolean,int)",
            "int digest(boolean,boolean)", "int sign(int,boolean,boolean,int)", "boolean holds(int)",
            "int verdict(int,int,int)");

    public static void main(String[] args) {
        Class<?> face = MailVerdicts.class;
        Due.yes("public and final", Modifier.isPublic(face.getModifiers()) && Modifier.isFinal(face.getModifiers()));
        Due.yes("stands below Object alone", face.getSuperclass() == Object.class);
        Due.same("interfaces", face.getInterfaces().length, 0);
        Set<String> seen = new TreeSet<>();
        for (Method method : face.getDeclaredMethods()) {
            if (!Modifier.isPrivate(method.getModifiers())) {
                seen.add(described(method));
            }
        }
        Due.text("methods", seen.toString(), new TreeSet<>(DUE).toString());
        for (Field field : face.getDeclaredFields()) {
            Due.yes("private field " + field.getName(), Modifier.isPrivate(field.getModifiers()));
        }
        for (Constructor<?> made : face.getDeclaredConstructors()) {
            Due.yes("public constructor", Modifier.isPublic(made.getModifiers()));
            Due.same("constructor's parameters", made.getParameterCount(), 0);
        }
        for (Class<?> inside : face.getDeclaredClasses()) {
            Due.yes("static " + inside.getName(), Modifier.isStatic(inside.getModifiers()));
            Due.no("public " + inside.getName(), Modifier.isPublic(inside.getModifiers()));
        }
        Due.end();
    }

    private static String described(Method method) {
        StringBuilder text = new StringBuilder();
        text.append(Modifier.isStatic(method.getModifiers()) ? "static " : "");
        text.append(method.getReturnType().getName()).append(' ').append(method.getName()).append('(');
        String between = "";
        for (Class<?> parameter : method.getParameterTypes()) {
            text.append(between).append(parameter.getName());
            between = ",";
        }
        return text.append(')').toString();
    }
}
