import java.lang.reflect.Field;
import java.lang.reflect.Method;
import java.lang.reflect.Modifier;
import java.util.Arrays;
import java.util.Set;
import java.util.TreeSet;

/** The public face is the document's, and no member beside it can be seen from outside. */
public final class FaceTest {
    public static void main(String[] args) {
        Due.is("NONE", PackThreads.NONE, -1);
        Due.is("BAD", PackThreads.BAD, -2);
        Due.is("NO", PackThreads.NO, -3);
        Due.is("FULL", PackThreads.FULL, -4);
        Due.holds("the class is public and final", Modifier.isPublic(PackThreads.class.getModifiers())
                && Modifier.isFinal(PackThreads.class.getModifiers()));
        Due.is("constructors", PackThreads.class.getDeclaredConstructors().length, 1);
        methods();
        fields();
        Due.finish();
    }

    private static void methods() {
        Set<String> due = new TreeSet<>(Arrays.asList("type(int)", "set(int,int)",
                "plant(int,int,int,boolean)", "begin(int)", "turn(int)", "run(int)",
                "interrupt(int)", "thread(int,int)", "out(int)", "told(int)", "waiting(int)",
                "plain(int)", "close()", "clear()"));
        Set<String> names = new TreeSet<>();
        for (String face : due) {
            names.add(face.substring(0, face.indexOf('(')));
        }
        Set<String> found = new TreeSet<>();
        for (Method method : PackThreads.class.getDeclaredMethods()) {
            if (Modifier.isPrivate(method.getModifiers())) {
                Due.holds("private " + method.getName() + " has a name of its own",
                        !names.contains(method.getName()));
            } else {
                String whole = method.toString();
                found.add(method.getName() + whole.substring(whole.indexOf('(')));
                Due.holds(method.getName() + " is public", Modifier.isPublic(method.getModifiers()));
                Due.holds(method.getName() + " answers an int", method.getReturnType() == int.class);
            }
        }
        Due.holds("the methods are " + due + ", found " + found, due.equals(found));
    }

    private static void fields() {
        Set<String> due = new TreeSet<>(Arrays.asList("NONE", "BAD", "NO", "FULL"));
        Set<String> found = new TreeSet<>();
        for (Field field : PackThreads.class.getDeclaredFields()) {
            if (!Modifier.isPrivate(field.getModifiers())) {
                found.add(field.getName());
            }
        }
        Due.holds("the constants are " + due + ", found " + found, due.equals(found));
    }
}
