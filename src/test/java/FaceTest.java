import java.lang.reflect.Constructor;
import java.lang.reflect.Field;
import java.lang.reflect.Method;
import java.lang.reflect.Modifier;
import java.util.ArrayList;
import java.util.Collections;
import java.util.List;

/** The public face: exactly the constants, the constructor and the methods of the document. */
final class FaceTest {
    private static final List<String> METHODS = List.of(
            "double brought()", "int append(int)", "int begin(int,int)", "int chances(int,boolean,int)",
            "int clear()", "int count(int)", "int diver(int,int)", "int fault()", "int homeward(int)",
            "int lay(int)", "int leader()", "int move(boolean)", "int nothing()", "int play()",
            "int restore()", "int save()", "int space(int,int)", "int stack(int,int,int)", "int take()",
            "int undo()", "int used()", "int why(int)");

    private FaceTest() {
    }

    public static void main(String[] args) {
        Due due = new Due();
        due.is("INVALID_ARGUMENT", TankDivers.INVALID_ARGUMENT, -1);
        due.is("NOT_POSSIBLE", TankDivers.NOT_POSSIBLE, -2);
        due.is("LIMIT_REACHED", TankDivers.LIMIT_REACHED, -3);
        due.is("NOT_FOUND", TankDivers.NOT_FOUND, -4);
        Class<?> face = TankDivers.class;
        due.is("modifiers", face.getModifiers(), Modifier.PUBLIC | Modifier.FINAL);
        due.same("methods", openMethods(face).toString(), METHODS.toString());
        due.same("fields", openFields(face).toString(),
                "[INVALID_ARGUMENT, LIMIT_REACHED, NOT_FOUND, NOT_POSSIBLE]");
        Constructor<?>[] constructors = face.getDeclaredConstructors();
        due.is("constructors", constructors.length, 1);
        due.is("arguments of the constructor", constructors[0].getParameterCount(), 0);
        for (Class<?> inside : face.getDeclaredClasses()) {
            due.so(inside + " is static and not public", Modifier.isStatic(inside.getModifiers())
                    && !Modifier.isPublic(inside.getModifiers()) && !Modifier.isProtected(inside.getModifiers()));
        }
        due.end();
    }

    private static List<String> openMethods(Class<?> face) {
        List<String> found = new ArrayList<>();
        for (Method method : face.getDeclaredMethods()) {
            if (!Modifier.isPrivate(method.getModifiers())) {
                String whole = method.toString().replace("TankDivers.", "").replace("public ", "");
                found.add(whole);
            }
        }
        Collections.sort(found);
        return found;
    }

    private static List<String> openFields(Class<?> face) {
        List<String> found = new ArrayList<>();
        for (Field field : face.getDeclaredFields()) {
            if (!Modifier.isPrivate(field.getModifiers())) {
                found.add(field.getName());
            }
        }
        Collections.sort(found);
        return found;
    }
}
