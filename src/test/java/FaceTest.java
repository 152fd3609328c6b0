import java.lang.reflect.Constructor;
import java.lang.reflect.Field;
import java.lang.reflect.Method;
import java.lang.reflect.Modifier;
import java.util.Arrays;
import java.util.List;
import java.util.Set;
import java.util.TreeSet;

/** The face of the document and no more. */
public final class FaceTest {
    private static final String[] FACE = {
        "int feed(int)", "int end(int)", "int text()", "int fault()", "int rule(int)", "int visitor(int, int)",
        "int door(int, int)", "int plan(int)", "int uses(int, int)", "int visit(int, int)", "int sky(int)",
        "int scrape(int)", "int alter(int, int, int)", "int ought(int, int, boolean)", "int plans(int)", "int cut(int)",
        "int runs(int)", "int ahead(int)", "int clears(int)", "int best(int, int)", "int few(int)", "int reads(int)",
        "int see(int, int, int)", "int forget(int)", "int pots(int)", "int rained()", "int orders(int)",
        "long luck(int, int, int)", "long mean(int, int)", "int drift(int, int, int)", "int keep(int)", "int back(int)",
        "int sheet(int, int, int)", "int lay(int, int, int)", "int read(int, int, int, int)", "int torn()", "int count(int)"};

    private static final Check check = new Check();

    public static void main(String[] args) {
        constants();
        methods();
        otherMembers();
        check.finish();
    }

    private static void constants() {
        check.due("BAD", DoorPaints.BAD, -1);
        check.due("STATE", DoorPaints.STATE, -2);
        check.due("FULL", DoorPaints.FULL, -3);
        check.due("NONE", DoorPaints.NONE, -4);
    }

    private static void methods() {
        Set<String> due = new TreeSet<>(Arrays.asList(FACE));
        Set<String> found = new TreeSet<>();
        Set<String> publicNames = new TreeSet<>();
        for (Method method : DoorPaints.class.getDeclaredMethods()) {
            if (!Modifier.isPrivate(method.getModifiers())) {
                String types = Arrays.toString(Arrays.stream(method.getParameterTypes()).map(Class::getSimpleName).toArray());
                found.add(method.getReturnType().getSimpleName() + " " + method.getName() + "(" + types.substring(1, types.length() - 1) + ")");
                publicNames.add(method.getName());
                check.holds(method.getName() + " is public", Modifier.isPublic(method.getModifiers()));
            }
        }
        check.holds("the face is " + due + ", not " + found, due.equals(found));
        for (Method method : DoorPaints.class.getDeclaredMethods()) {
            boolean hidden = Modifier.isPrivate(method.getModifiers());
            check.holds("no private method is named " + method.getName(), !(hidden && publicNames.contains(method.getName())));
        }
    }

    private static void otherMembers() {
        List<String> constants = List.of("BAD", "STATE", "FULL", "NONE");
        int modifiers = DoorPaints.class.getModifiers();
        check.holds("the class is public and final", Modifier.isPublic(modifiers) && Modifier.isFinal(modifiers));
        for (Field field : DoorPaints.class.getDeclaredFields()) {
            boolean open = !Modifier.isPrivate(field.getModifiers());
            check.holds(field.getName() + " may be seen only if it is told", open == constants.contains(field.getName()));
        }
        Constructor<?>[] made = DoorPaints.class.getDeclaredConstructors();
        check.holds("one public constructor without arguments", made.length == 1 && Modifier.isPublic(made[0].getModifiers()) && made[0].getParameterCount() == 0);
        Class<?>[] inside = DoorPaints.class.getDeclaredClasses();
        check.holds("at most twelve classes", inside.length < 12);
        for (Class<?> nested : inside) {
            check.holds(nested.getSimpleName() + " is static and private", Modifier.isStatic(nested.getModifiers()) && Modifier.isPrivate(nested.getModifiers()));
            check.holds(nested.getSimpleName() + " has some twenty fields at most", nested.getDeclaredFields().length <= 20);
            for (Method method : nested.getDeclaredMethods()) {
                String name = method.getName();
                check.holds(name + " is no name of the face", Arrays.stream(FACE).noneMatch(told -> told.contains(" " + name + "(")));
                check.holds(name + " takes at most seven", method.getParameterCount() <= 7);
            }
        }
    }
}
