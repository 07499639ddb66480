import java.lang.reflect.Constructor;
import java.lang.reflect.Field;
import java.lang.reflect.Method;
import java.lang.reflect.Modifier;
import java.util.ArrayList;
import java.util.List;
import java.util.Set;
import java.util.TreeSet;

/** The public face, the constants, and rule 1 of LANGUAGE.md. */
public final class FaceTest extends Expect {
    private static final String[] METHODS = {
        "int sail(int)", "int shore(int)", "int mood(int,int)", "int rum(int,int)", "int watch(int,int)",
        "int horizon(int,int)", "int error(int)", "int sight(int)", "int hour()", "int sailorOf(int,int)",
        "int watchOf(int,int)", "int sightOf(int,int)", "float angle(int)", "int readBits(int)", "int fixBits(int)",
        "int fixAgain(int)", "int meet(int,int)", "int unlike(int,int)", "int unlikeAgain(int,int)",
        "int closest(int,int)", "int would(int,int)", "int sinks(int)", "int messes()", "int highest(int)",
        "int ranked(int)", "long packed()", "boolean isCounted()", "double meanAngle()", "int account(int)",
        "int write(int)", "int writeLog()", "int written(int)", "int append(char)", "int read()", "int fault()",
        "int reason(int,boolean)", "int undo()", "int save()", "int restore()"};
    private static final String[] CONSTANTS = {"NONE=-100001", "BAD=-100002", "STATE=-100003", "FULL=-100004",
        "REFUSED=-100005", "NOTHING=-100006"};

    public static void main(String[] args) throws IllegalAccessException {
        Class<?> face = MoodSextant.class;
        due("public and final", face.getModifiers(), Modifier.PUBLIC | Modifier.FINAL);
        due("methods", methods(face).toString(), new TreeSet<>(List.of(METHODS)).toString());
        due("constants", constants(face).toString(), new TreeSet<>(List.of(CONSTANTS)).toString());
        Constructor<?>[] constructors = face.getDeclaredConstructors();
        due("constructors", constructors.length, 1);
        due("its modifiers", constructors[0].getModifiers(), Modifier.PUBLIC);
        due("its parameters", constructors[0].getParameterCount(), 0);
        names(face);
        for (Class<?> inside : face.getDeclaredClasses()) {
            due(inside.getName() + " is static", Modifier.isStatic(inside.getModifiers()), true);
            due(inside.getName() + " is private", Modifier.isPrivate(inside.getModifiers()), true);
            names(inside);
        }
        finish();
    }

    private static Set<String> methods(Class<?> face) {
        Set<String> methods = new TreeSet<>();
        for (Method method : face.getDeclaredMethods()) {
            if (Modifier.isPrivate(method.getModifiers()) || method.isSynthetic()) {
                continue;
            }
            due(method.getName() + " is public alone", method.getModifiers(), Modifier.PUBLIC);
            List<String> types = new ArrayList<>();
            for (Class<?> type : method.getParameterTypes()) {
                types.add(type.getName());
            }
            methods.add(method.getReturnType() + " " + method.getName() + "(" + String.join(",", types) + ")");
        }
        return methods;
    }

    private static Set<String> constants(Class<?> face) throws IllegalAccessException {
        Set<String> constants = new TreeSet<>();
        for (Field field : face.getDeclaredFields()) {
            if (Modifier.isPrivate(field.getModifiers()) || field.isSynthetic()) {
                continue;
            }
            due(field.getName(), field.getModifiers(), Modifier.PUBLIC | Modifier.STATIC | Modifier.FINAL);
            constants.add(field.getName() + "=" + field.getInt(null));
        }
        return constants;
    }

    /** No other method bears the name of a public one. */
    private static void names(Class<?> inside) {
        Set<String> taken = new TreeSet<>();
        for (String method : METHODS) {
            taken.add(method.substring(method.indexOf(' ') + 1, method.indexOf('(')));
        }
        for (Method method : inside.getDeclaredMethods()) {
            boolean isFace = inside == MoodSextant.class && !Modifier.isPrivate(method.getModifiers());
            due(inside.getName() + "." + method.getName(), !isFace && taken.contains(method.getName()), false);
        }
        for (Field field : inside.getDeclaredFields()) {
            if (Modifier.isStatic(field.getModifiers())) {
                due(field.getName() + " is final", Modifier.isFinal(field.getModifiers()), true);
            }
        }
    }
}
