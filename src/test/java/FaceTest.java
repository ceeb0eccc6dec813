import java.lang.reflect.Constructor;
import java.lang.reflect.Field;
import java.lang.reflect.Method;
import java.lang.reflect.Modifier;
import java.util.TreeSet;

/** The class shows what the document's section "The public face" has, and nothing else. */
public final class FaceTest {
    private static final String[] FACE = {
        "public final class TrainGuard",
        "public static final int TrainGuard.NONE",
        "public static final int TrainGuard.MAX",
        "public TrainGuard(int,int,int)",
        "public boolean TrainGuard.bits(int,int)",
        "public int TrainGuard.message()",
        "public boolean TrainGuard.mark(int)",
        "public int TrainGuard.cycle(int)",
        "public boolean TrainGuard.driver(int)",
        "public int TrainGuard.mode()",
        "public int TrainGuard.state(int)",
        "public int TrainGuard.display(int)",
        "public int TrainGuard.limit(int)",
        "public int TrainGuard.way(int,int,int)",
        "public int TrainGuard.marks(int)",
        "public int TrainGuard.note(int)",
    };

    public static void main(String[] args) {
        Check check = new Check("FaceTest");
        TreeSet<String> want = new TreeSet<>();
        for (String member : FACE) {
            want.add(member);
        }
        TreeSet<String> got = new TreeSet<>();
        got.add(TrainGuard.class.toGenericString());
        collect(got);
        for (String member : want) {
            check.due("there is " + member, true, got.contains(member));
        }
        for (String member : got) {
            check.due("the document has " + member, true, want.contains(member));
        }
        for (Class<?> inside : TrainGuard.class.getDeclaredClasses()) {
            int how = inside.getModifiers();
            check.due(inside + " is static", true, Modifier.isStatic(how));
            check.due(inside + " is hidden", false, Modifier.isPublic(how) || Modifier.isProtected(how));
        }
        check.due("NONE", -1, TrainGuard.NONE);
        check.due("MAX", 600, TrainGuard.MAX);
        check.end();
    }

    private static void collect(TreeSet<String> got) {
        for (Field field : TrainGuard.class.getDeclaredFields()) {
            if (!Modifier.isPrivate(field.getModifiers())) {
                got.add(field.toString());
            }
        }
        for (Constructor<?> constructor : TrainGuard.class.getDeclaredConstructors()) {
            if (!Modifier.isPrivate(constructor.getModifiers())) {
                got.add(constructor.toString());
            }
        }
        for (Method method : TrainGuard.class.getDeclaredMethods()) {
            if (!Modifier.isPrivate(method.getModifiers())) {
                got.add(method.toString());
            }
        }
    }
}
