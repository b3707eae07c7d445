import java.lang.reflect.Constructor;
import java.lang.reflect.Field;
import java.lang.reflect.Method;
import java.lang.reflect.Modifier;
import java.util.Arrays;
import java.util.Set;
import java.util.TreeSet;

/** The public face is the document's, and nothing else of the class can be seen (LANGUAGE 1, 5). */
public final class FaceTest {
    private static final String[] FACE = {
        "int constant(long,int)", "int port(int,int,int)", "int reckon(int,int,int,int)",
        "int pick(int,int,int,int)", "int touch(int,int,int)", "int drop()", "int parts(int,int)",
        "int length(int,int,boolean)", "int feed(int,long)", "int place(int,long)",
        "int act(int,int)", "long span(int,boolean) IllegalArgumentException",
        "int needs(int,int)", "int lay()", "int tick(int,int)", "int bound(int)",
        "int registers()", "int chooser(int,int,boolean)", "int at(int,int)", "int run(boolean)",
        "int told(int)", "long out(int,int) IllegalArgumentException IllegalStateException",
        "int outs(int)", "long row(int) IllegalArgumentException IllegalStateException",
        "int count(int)", "int keep(int,int,int)", "int make(int,int,int)",
        "long element(int,int) IllegalArgumentException IllegalStateException",
        "int copy(int,int,int,int,int)", "int weight(int)", "int toss(int)",
    };

    public static void main(String[] args) {
        Set<String> due = new TreeSet<>(Arrays.asList(FACE));
        Set<String> seen = new TreeSet<>();
        Set<String> names = new TreeSet<>();
        for (Method method : GateMaker.class.getDeclaredMethods()) {
            if (!Modifier.isPrivate(method.getModifiers())) {
                seen.add(textOf(method));
                names.add(method.getName());
                Check.due(method + " is public", Modifier.isPublic(method.getModifiers()) ? 1 : 0, 1);
            }
        }
        Check.same("the face", seen.toString(), due.toString());
        for (Method method : GateMaker.class.getDeclaredMethods()) {
            boolean hidden = Modifier.isPrivate(method.getModifiers());
            Check.same("the private namesake of a public method",
                    hidden && names.contains(method.getName()) ? method.toString() : "none", "none");
        }
        checkConstructors();
        checkFields(GateMaker.class);
        for (Class<?> inside : GateMaker.class.getDeclaredClasses()) {
            Check.due(inside + " is static", Modifier.isStatic(inside.getModifiers()) ? 1 : 0, 1);
            Check.due(inside + " is public", Modifier.isPublic(inside.getModifiers()) ? 1 : 0, 0);
            checkFields(inside);
        }
        Check.due("final", Modifier.isFinal(GateMaker.class.getModifiers()) ? 1 : 0, 1);
        Check.end();
    }

    private static void checkConstructors() {
        Constructor<?>[] made = GateMaker.class.getDeclaredConstructors();
        Check.due("constructors", made.length, 1);
        Check.due("its parameters", made[0].getParameterCount(), 0);
        Check.due("it is public", Modifier.isPublic(made[0].getModifiers()) ? 1 : 0, 1);
    }

    private static void checkFields(Class<?> owner) {
        for (Field field : owner.getDeclaredFields()) {
            int modifiers = field.getModifiers();
            if (owner == GateMaker.class) {
                Check.due(field + " is private", Modifier.isPrivate(modifiers) ? 1 : 0, 1);
            }
            if (Modifier.isStatic(modifiers)) {
                Check.due(field + " is final", Modifier.isFinal(modifiers) ? 1 : 0, 1);
            }
        }
    }

    private static String textOf(Method method) {
        StringBuilder text = new StringBuilder();
        text.append(method.getReturnType().getSimpleName()).append(' ').append(method.getName());
        text.append('(');
        String comma = "";
        for (Class<?> parameter : method.getParameterTypes()) {
            text.append(comma).append(parameter.getSimpleName());
            comma = ",";
        }
        text.append(')');
        for (Class<?> thrown : method.getExceptionTypes()) {
            text.append(' ').append(thrown.getSimpleName());
        }
        return text.toString();
    }
}
