import java.lang.reflect.Constructor;
import java.lang.reflect.Field;
import java.lang.reflect.Method;
import java.lang.reflect.Modifier;
import java.util.ArrayList;
import java.util.Collections;
import java.util.HashSet;
import java.util.List;
import java.util.Set;

/** The face has each member of the document, and no other; no private method bears a public name. */
public final class FaceTest {
    private static final String[] FACE = {
        "CUT = 3", "NONE = -1", "RUNNING = 2", "STARTING = 1", "STOPPED = 0",
        "boolean isLoop(int) IndexOutOfBoundsException",
        "boolean isStale(int) IndexOutOfBoundsException",
        "int control(int,int) IndexOutOfBoundsException IllegalStateException",
        "int demand(int,int,int) IndexOutOfBoundsException IllegalArgumentException IllegalStateException",
        "int depth(int) IndexOutOfBoundsException",
        "int fault()",
        "int formula(int) IndexOutOfBoundsException IllegalArgumentException IllegalStateException",
        "int hold(int,int) IndexOutOfBoundsException IllegalArgumentException IllegalStateException",
        "int lie(int,int) IndexOutOfBoundsException IllegalArgumentException IllegalStateException",
        "int limit(int,int) IndexOutOfBoundsException IllegalStateException",
        "int load(int) IndexOutOfBoundsException",
        "int mend(int) IndexOutOfBoundsException IllegalStateException",
        "int need(int,int,boolean) IndexOutOfBoundsException IllegalArgumentException IllegalStateException",
        "int now()",
        "int read(int,int) IndexOutOfBoundsException IllegalArgumentException IllegalStateException",
        "int release(int) IndexOutOfBoundsException IllegalStateException",
        "int starts(int) IndexOutOfBoundsException",
        "int state(int) IndexOutOfBoundsException",
        "int steps()",
        "int tick(int) IllegalArgumentException IllegalStateException",
        "int told(int) IndexOutOfBoundsException",
        "int trial(int) IndexOutOfBoundsException",
        "int type(char) IllegalArgumentException IllegalStateException",
        "int undo() IllegalStateException",
        "int value(int) IndexOutOfBoundsException",
        "int valueAnew(int) IndexOutOfBoundsException",
        "int wipe()",
        "int work()",
        "int worth(int) IndexOutOfBoundsException",
    };

    private FaceTest() {
    }

    public static void main(String[] args) throws IllegalAccessException {
        Class<?> face = Daemonsheet.class;
        List<String> found = new ArrayList<>();
        Set<String> names = new HashSet<>();
        for (Field field : face.getDeclaredFields()) {
            if (!Modifier.isPrivate(field.getModifiers())) {
                Check.due(field + " is a constant", field.getModifiers(),
                        Modifier.PUBLIC | Modifier.STATIC | Modifier.FINAL);
                found.add(field.getName() + " = " + field.getInt(null));
            }
        }
        for (Method method : face.getDeclaredMethods()) {
            if (!Modifier.isPrivate(method.getModifiers())) {
                Check.due(method + " is public", method.getModifiers(), Modifier.PUBLIC);
                found.add(told(method));
                names.add(method.getName());
            }
        }
        Collections.sort(found);
        Check.due("the face", String.join("; ", found), String.join("; ", FACE));
        Check.due("the class", face.getModifiers(), Modifier.PUBLIC | Modifier.FINAL);
        Constructor<?>[] made = face.getDeclaredConstructors();
        Check.due("constructors", made.length, 1);
        Check.due("a public one", made[0].getModifiers(), Modifier.PUBLIC);
        Check.due("without parameters", made[0].getParameterCount(), 0);
        checkInside(face, names);
        Check.end();
    }

    private static String told(Method method) {
        StringBuilder told = new StringBuilder();
        told.append(method.getReturnType()).append(' ').append(method.getName()).append('(');
        for (Class<?> type : method.getParameterTypes()) {
            told.append(told.charAt(told.length() - 1) == '(' ? "" : ",").append(type);
        }
        told.append(')');
        for (Class<?> type : method.getExceptionTypes()) {
            told.append(' ').append(type.getSimpleName());
        }
        return told.toString();
    }

    private static void checkInside(Class<?> face, Set<String> names) {
        for (Method method : face.getDeclaredMethods()) {
            boolean hidden = Modifier.isPrivate(method.getModifiers());
            Check.due(method + " hides", hidden && names.contains(method.getName()), false);
        }
        for (Class<?> inner : face.getDeclaredClasses()) {
            Check.due(inner + " is static", Modifier.isStatic(inner.getModifiers()), true);
            Check.due(inner + " is public", Modifier.isPublic(inner.getModifiers()), false);
            for (Method method : inner.getDeclaredMethods()) {
                Check.due(method + " hides", names.contains(method.getName()), false);
            }
            checkStatics(inner);
        }
        checkStatics(face);
    }

    private static void checkStatics(Class<?> one) {
        for (Field field : one.getDeclaredFields()) {
            int kind = field.getModifiers();
            Check.due(field + " is final", Modifier.isStatic(kind) && !Modifier.isFinal(kind), false);
        }
    }
}
