import java.lang.reflect.Constructor;
import java.lang.reflect.Field;
import java.lang.reflect.Method;
import java.lang.reflect.Modifier;
import java.util.TreeSet;

/** The public face: the constants, the constructor and the methods of the document, and no others. */
public final class FaceTest {
    private static final String[] METHODS = {
        "int write(int)", "int wipe()", "int fault()", "int lay()", "int platform(int,int)",
        "int train(int)", "int cell(int,int)", "int start(int,int)", "int hold(int)", "int pass(int)",
        "int undo()", "int where(int,int,int)", "int first(int,int)", "int hang()",
        "int trip(int,int,int)", "int best(int,int,int)", "int places(int)",
        "int came(int,int,boolean)", "int forget()", "int fits(int)", "int from(int,int,int,int)",
        "int clocks(int,int,int)", "int floods(int,int,int,int,int)", "int day(int,int)", "int keep()",
        "int back()", "int count(int)"};

    public static void main(String[] args) {
        Due.is("BAD", PlatformsLeave.BAD, -1);
        Due.is("NO", PlatformsLeave.NO, -2);
        Due.is("FULL", PlatformsLeave.FULL, -3);
        Due.is("NONE", PlatformsLeave.NONE, -4);
        Class<?> face = PlatformsLeave.class;
        Due.is("public final", face.getModifiers() & (Modifier.PUBLIC | Modifier.FINAL),
                Modifier.PUBLIC | Modifier.FINAL);
        methods(face);
        fields(face);
        Constructor<?>[] made = face.getDeclaredConstructors();
        Due.is("how many constructors", made.length, 1);
        Due.is("the constructor's modifiers", made[0].getModifiers(), Modifier.PUBLIC);
        Due.is("the constructor's parameters", made[0].getParameterCount(), 0);
        Due.end();
    }

    private static void methods(Class<?> face) {
        TreeSet<String> wanted = new TreeSet<>(java.util.List.of(METHODS));
        TreeSet<String> names = new TreeSet<>();
        for (String method : METHODS) names.add(method.substring(4, method.indexOf('(')));
        for (Method method : face.getDeclaredMethods()) {
            if (Modifier.isPrivate(method.getModifiers())) {
                Due.is("private method with a public name: " + method, names.contains(method.getName()) ? 1 : 0, 0);
                continue;
            }
            StringBuilder told = new StringBuilder(method.getReturnType() + " " + method.getName() + "(");
            for (Class<?> type : method.getParameterTypes()) {
                told.append(told.charAt(told.length() - 1) == '(' ? "" : ",").append(type);
            }
            Due.is("in the face: " + told, wanted.remove(told + ")") ? 1 : 0, 1);
            Due.is("modifiers of " + told, method.getModifiers(), Modifier.PUBLIC);
        }
        Due.is("missing from the face: " + wanted, wanted.size(), 0);
    }

    private static void fields(Class<?> face) {
        TreeSet<String> wanted = new TreeSet<>(java.util.List.of("BAD", "NO", "FULL", "NONE"));
        for (Field field : face.getDeclaredFields()) {
            if (Modifier.isPrivate(field.getModifiers())) continue;
            Due.is("in the face: " + field, wanted.remove(field.getName()) ? 1 : 0, 1);
            Due.is("modifiers of " + field, field.getModifiers(),
                    Modifier.PUBLIC | Modifier.STATIC | Modifier.FINAL);
        }
        Due.is("missing from the face: " + wanted, wanted.size(), 0);
    }
}
