import java.lang.reflect.Constructor;
import java.lang.reflect.Field;
import java.lang.reflect.Method;
import java.lang.reflect.Modifier;
import java.util.Arrays;
import java.util.Set;
import java.util.TreeSet;

/** The class has the document's face and nothing beside it. */
public final class FaceTest {
    private static final String NSEE = " throws java.util.NoSuchElementException";
    private static final String IAE = " throws java.lang.IllegalArgumentException";
    private static final String BOTH = NSEE + ",java.lang.IllegalArgumentException";

    private static final String[] FACE = {
        "int feed(int,int,int,int,int)",
        "int program(int)" + IAE,
        "int fault()",
        "int count(int)" + NSEE,
        "int at(int)" + NSEE,
        "int register(int)" + NSEE,
        "int guard(int)" + NSEE,
        "int done(int)" + NSEE,
        "int trace(int)" + NSEE,
        "int why(int,int)" + NSEE,
        "int flaws(int,int,boolean,int)" + BOTH,
        "long number(int,int,boolean)" + BOTH + ",java.lang.ArithmeticException",
        "int need(int,int,int,int,int)" + BOTH,
        "int rounds(int,int,int)" + BOTH,
        "long unedited(int,int,int,int)" + BOTH,
        "int steps(int)",
        "int lay(int,int)",
        "boolean set(int,int)",
        "int next(int)",
        "int begin()",
        "int undo()",
        "int then(int,int)" + BOTH,
        "int holds(int,int)" + BOTH,
        "int where(int,int)" + BOTH,
        "int faults(int)" + NSEE,
        "int halts()",
        "int changes(int)" + NSEE,
        "int round()",
        "int spoilt(int,int,int,int)" + BOTH,
        "int note(int,int,int)",
        "int blamed(int,int,int)" + BOTH,
        "void forget()",
        "int years(int,int,int)" + BOTH,
        "void image()",
        "boolean restore()",
    };

    public static void main(String[] args) {
        Class<?> face = NibbleEngine.class;
        Check.due("public and final", Modifier.PUBLIC | Modifier.FINAL, () -> face.getModifiers());
        Set<String> due = new TreeSet<>(Arrays.asList(FACE));
        Set<String> got = new TreeSet<>();
        for (Method method : face.getDeclaredMethods()) {
            if (!Modifier.isPrivate(method.getModifiers()) && !method.isSynthetic()) {
                got.add(told(method));
            }
        }
        if (!got.equals(due)) {
            Check.tell("the face has " + got + ", due is " + due);
        }
        noPrivateBearsAPublicName(face);
        for (Field field : face.getDeclaredFields()) {
            boolean constant = field.getName().equals("NONE");
            Check.due(field + " may be seen", constant, !Modifier.isPrivate(field.getModifiers()));
        }
        Constructor<?>[] made = face.getDeclaredConstructors();
        Check.due("one constructor", 1, () -> made.length);
        Check.due("NONE", -1, () -> NibbleEngine.NONE);
        Check.due("the file has some twelve classes", true, face.getDeclaredClasses().length < 13);
        Check.end("FaceTest");
    }

    private static String told(Method method) {
        StringBuilder row = new StringBuilder(method.getReturnType().getName());
        row.append(' ').append(method.getName()).append('(');
        String gap = "";
        for (Class<?> type : method.getParameterTypes()) {
            row.append(gap).append(type.getName());
            gap = ",";
        }
        row.append(')');
        gap = " throws ";
        for (Class<?> type : method.getExceptionTypes()) {
            row.append(gap).append(type.getName());
            gap = ",";
        }
        return row.toString();
    }

    private static void noPrivateBearsAPublicName(Class<?> face) {
        Set<String> names = new TreeSet<>();
        for (Method method : face.getMethods()) {
            if (method.getDeclaringClass() == face) {
                names.add(method.getName());
            }
        }
        for (Method method : face.getDeclaredMethods()) {
            if (!Modifier.isPublic(method.getModifiers())) {
                Check.due(method + " bears a public name", false, names.contains(method.getName()));
            }
        }
        for (Class<?> inside : face.getDeclaredClasses()) {
            for (Method method : inside.getDeclaredMethods()) {
                Check.due(method + " bears a public name", false, names.contains(method.getName()));
            }
        }
    }
}
