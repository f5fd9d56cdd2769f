import java.lang.reflect.Constructor;
import java.lang.reflect.Field;
import java.lang.reflect.Method;
import java.lang.reflect.Modifier;
import java.util.Set;
import java.util.TreeSet;

/** The public face is the document's, and no other member can be seen from outside. */
public final class FaceTest {
    private static final Set<String> FACE = Set.of(
        "boolean bar(int,int,int)", "boolean profile(int,int)", "boolean spot(int,int,int)", "int clear(int)",
        "int choose(int)", "int restart()", "boolean at(int,int,int,int)", "boolean reach(int,int,int)", "int plan()",
        "int move(int,int)", "boolean edit(int,int,int,int)", "int undo()", "int simulate(int)",
        "boolean stock(int,int)", "int fault()", "int left()", "int steps(int)");

    public static void main(String[] args) {
        Due due = new Due();
        due.is("NONE", TurnedBar.NONE, -1);
        due.is("final", Modifier.isFinal(TurnedBar.class.getModifiers()), true);
        due.is("public", Modifier.isPublic(TurnedBar.class.getModifiers()), true);
        methods(due);
        fields(due);
        Constructor<?>[] constructors = TurnedBar.class.getDeclaredConstructors();
        due.is("constructors", constructors.length, 1);
        due.is("public constructor", Modifier.isPublic(constructors[0].getModifiers()), true);
        due.is("its parameters", constructors[0].getParameterCount(), 0);
        for (Class<?> inside : TurnedBar.class.getDeclaredClasses()) {
            due.is(inside + " is static", Modifier.isStatic(inside.getModifiers()), true);
            due.is(inside + " is public", Modifier.isPublic(inside.getModifiers()), false);
        }
        due.end();
    }

    private static void methods(Due due) {
        Set<String> seen = new TreeSet<>();
        for (Method method : TurnedBar.class.getDeclaredMethods()) {
            if (!method.isSynthetic() && !Modifier.isPrivate(method.getModifiers())) {
                String text = signature(method);
                seen.add(text);
                due.is(text + " is of the face", FACE.contains(text), true);
                due.is(text + " is public", Modifier.isPublic(method.getModifiers()), true);
                due.is(text + " is static", Modifier.isStatic(method.getModifiers()), false);
            }
        }
        due.is("methods of the face", seen.size(), FACE.size());
    }

    private static void fields(Due due) {
        for (Field field : TurnedBar.class.getDeclaredFields()) {
            int modifiers = field.getModifiers();
            boolean isNone = field.getName().equals("NONE");
            due.is(field + " is private", Modifier.isPrivate(modifiers), !isNone);
            due.is(field + " is static and not final", Modifier.isStatic(modifiers) && !Modifier.isFinal(modifiers), false);
        }
    }

    private static String signature(Method method) {
        StringBuilder text = new StringBuilder(method.getReturnType() + " " + method.getName() + "(");
        for (Class<?> type : method.getParameterTypes()) {
            text.append(text.charAt(text.length() - 1) == '(' ? "" : ",").append(type);
        }
        return text.append(")").toString();
    }
}
