import java.lang.reflect.Field;
import java.lang.reflect.Method;
import java.lang.reflect.Modifier;
import java.util.Set;
import java.util.TreeSet;

/** The public face: nothing but what the document has; no private method bears a public one's name. */
public final class FaceTest {
    private static final Check CHECK = new Check("FaceTest");
    private static final String[] FACE = {"feed 5 int", "end 1 int", "book 0 int", "routine 0 int", "fault 1 int", "trick 3 int",
        "sound 1 int", "rules 2 boolean", "run 0 int", "ran 1 int", "miss 2 int", "done 2 int", "mode 1 int", "person 3 int",
        "feet 2 int", "best 3 int", "joined 5 int", "rhyme 0 int", "word 1 int", "stays 1 int", "tape 3 int", "untell 1 boolean",
        "later 1 int", "seen 3 int", "steps 6 int", "told 5 int", "slip 3 int", "about 1 int"};

    public static void main(String[] args) {
        Set<String> open = new TreeSet<>();
        Set<String> names = new TreeSet<>();
        for (Method method : TwoRopes.class.getDeclaredMethods()) {
            if (!Modifier.isPrivate(method.getModifiers()) && !method.isSynthetic()) {
                open.add(method.getName() + " " + method.getParameterCount() + " " + method.getReturnType());
                names.add(method.getName());
            }
        }
        CHECK.due("the methods are the document's: " + open, open.equals(new TreeSet<>(Set.of(FACE))), true);
        CHECK.due("one constructor", TwoRopes.class.getDeclaredConstructors().length, 1);
        CHECK.due("final", Modifier.isFinal(TwoRopes.class.getModifiers()), true);
        for (Field field : TwoRopes.class.getDeclaredFields()) {
            boolean fine = Modifier.isPrivate(field.getModifiers()) || field.getName().equals("NONE");
            CHECK.due("field " + field.getName(), fine, true);
        }
        noNameTwice(TwoRopes.class, names);
        for (Class<?> inside : TwoRopes.class.getDeclaredClasses()) {
            CHECK.due(inside + " is static", Modifier.isStatic(inside.getModifiers()), true);
            noNameTwice(inside, names);
        }
        CHECK.due("NONE", TwoRopes.NONE, -1);
        CHECK.finish();
    }

    private static void noNameTwice(Class<?> owner, Set<String> names) {
        for (Method method : owner.getDeclaredMethods()) {
            boolean own = owner != TwoRopes.class || Modifier.isPrivate(method.getModifiers());
            CHECK.due(owner + " " + method.getName(), own && names.contains(method.getName()), false);
        }
    }
}
