import java.lang.reflect.Constructor;
import java.lang.reflect.Field;
import java.lang.reflect.Method;
import java.lang.reflect.Modifier;
import java.util.ArrayList;
import java.util.Arrays;
import java.util.List;
import java.util.Set;
import java.util.TreeSet;

/** The class has the public face of the document and shows nothing beside it. */
public final class HewnSolidsFaceTest {
    private static final String[] FACE = {
        "public static final int BAD",
        "public static final int NO",
        "public HewnSolids()",
        "public int box(int,int,int,int,int,int,int)",
        "public int join(int,int,int,int)",
        "public int turn(int,int)",
        "public int mirror(int,int)",
        "public int shift(int,int,int,int)",
        "public int sweep(int,int,int,int,int,int)",
        "public int undo()",
        "public int redo()",
        "public int volume(int)",
        "public int sides(int)",
        "public int edges(int)",
        "public int pieces(int)",
        "public int hollows(int)",
        "public int moment(int,int)",
        "public int extent(int,int,int)",
        "public int inside(int,int,int,int)",
        "public int section(int,int,int)",
        "public boolean same(int,int)",
        "public int depth(int,int,boolean,int,int)",
        "public int stroke(int,int,boolean,int,int,int)",
        "public int strokes(int,int,boolean,int)",
    };

    public static void main(String[] args) {
        Check check = new Check();
        Set<String> want = new TreeSet<>(Arrays.asList(FACE));
        Set<String> got = new TreeSet<>(shownMembers());
        for (String member : want) {
            check.due("has " + member, true, got.contains(member));
        }
        for (String member : got) {
            check.due("may have " + member, true, want.contains(member));
        }
        check.due("the class is public and final", Modifier.PUBLIC | Modifier.FINAL,
                HewnSolids.class.getModifiers());
        noHiddenMethodHasAPublicName(check);
        classesInsideAreStaticAndNotShown(check);
        check.finish();
    }

    private static List<String> shownMembers() {
        List<String> shown = new ArrayList<>();
        for (Field field : HewnSolids.class.getDeclaredFields()) {
            if (!Modifier.isPrivate(field.getModifiers())) {
                shown.add(Modifier.toString(field.getModifiers()) + " " + field.getType() + " " + field.getName());
            }
        }
        for (Constructor<?> constructor : HewnSolids.class.getDeclaredConstructors()) {
            shown.add(constructor.toString());
        }
        for (Method method : HewnSolids.class.getDeclaredMethods()) {
            if (!Modifier.isPrivate(method.getModifiers())) {
                shown.add(method.toString().replace("HewnSolids.", ""));
            }
        }
        return shown;
    }

    private static void noHiddenMethodHasAPublicName(Check check) {
        Set<String> names = new TreeSet<>();
        for (Method method : HewnSolids.class.getDeclaredMethods()) {
            if (Modifier.isPublic(method.getModifiers())) {
                names.add(method.getName());
            }
        }
        List<Class<?>> classes = new ArrayList<>(Arrays.asList(HewnSolids.class.getDeclaredClasses()));
        classes.add(HewnSolids.class);
        for (Class<?> one : classes) {
            for (Method method : one.getDeclaredMethods()) {
                if (one != HewnSolids.class || !Modifier.isPublic(method.getModifiers())) {
                    check.due(method + " bears a public name", false, names.contains(method.getName()));
                }
            }
        }
    }

    private static void classesInsideAreStaticAndNotShown(Check check) {
        for (Class<?> one : HewnSolids.class.getDeclaredClasses()) {
            int modifiers = one.getModifiers();
            check.due(one + " is static", true, Modifier.isStatic(modifiers));
            check.due(one + " is shown", false, Modifier.isPublic(modifiers) || Modifier.isProtected(modifiers));
        }
    }
}
