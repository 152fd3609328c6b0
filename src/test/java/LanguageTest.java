import java.io.IOException;
import java.lang.reflect.Array;
import java.lang.reflect.Field;
import java.lang.reflect.Method;
import java.lang.reflect.Modifier;
import java.nio.file.Files;
import java.nio.file.Path;
import java.util.ArrayDeque;
import java.util.Arrays;
import java.util.Collections;
import java.util.IdentityHashMap;
import java.util.List;
import java.util.Set;
import java.util.TreeSet;
import java.util.regex.Matcher;
import java.util.regex.Pattern;
import java.util.stream.Collectors;

/** What can be seen of LANGUAGE.md's rules in the file's words and in the compiled class. */
public final class LanguageTest {
    private static final List<Class<?>> NUMBERS = List.of(int.class, long.class, short.class, byte.class, char.class, boolean.class);
    private static final int MOST_LINES = 60;
    private static final int MOST_PARAMETERS = 7;
    private static final int MOST_FIELDS = 20;
    private static final int MOST_CLASSES = 12;

    private static final Check check = new Check();

    public static void main(String[] args) throws IOException, IllegalAccessException {
        String source = Files.readString(Path.of("src/main/java/DoorPaints.java"));
        String code = source.replaceAll("(?s)/\\*.*?\\*/", "").replaceAll("//[^\n]*", "").replaceAll("\"[^\"]*\"", "\"\"").replaceAll("'.'", "' '");
        check.holds("plain signs alone", source.chars().allMatch(c -> c == '\n' || c >= ' ' && c < 127));
        words(code);
        library(code);
        loops(code);
        lengths(code);
        objectsAreMadeInConstructors(code);
        for (Class<?> inside : DoorPaints.class.getNestMembers()) {
            members(inside);
        }
        check.holds("at most twelve classes", DoorPaints.class.getNestMembers().length <= MOST_CLASSES);
        room();
        check.finish();
    }

    /** Rules 2, 3, 6, 10, 13. */
    private static void words(String code) {
        String[] out = {"throw", "throws", "try", "catch", "finally", "synchronized", "assert", "import", "package", "protected",
            "double", "float", "native", "transient", "volatile", "strictfp", "var", "goto", "equals", "hashCode", "toString", "clone"};
        for (String word : out) {
            check.holds("the file does not say " + word, !Pattern.compile("\\b" + word + "\\b").matcher(code).find());
        }
        check.holds("no lambda, no arrow", !code.contains("->"));
        check.holds("no method reference", !code.contains("::"));
        check.holds("no texts joined by +", !code.contains("\"\" +") && !code.contains("+ \"\""));
        check.holds("no array of two dimensions of objects", !code.contains("[][]"));
    }

    /** Rule 4: of the library these alone. */
    private static void library(String code) {
        Set<String> known = Arrays.stream(DoorPaints.class.getNestMembers()).map(Class::getSimpleName).collect(Collectors.toCollection(TreeSet::new));
        known.addAll(List.of("String", "Math", "Integer"));
        Matcher type = Pattern.compile("\\b[A-Z]\\w*[a-z]\\w*\\b").matcher(code);
        while (type.find()) {
            check.holds(type.group() + " may be used", known.contains(type.group()));
        }
        Matcher function = Pattern.compile("\\b(?:Math|Integer)\\.(\\w+)").matcher(code);
        while (function.find()) {
            check.holds(function.group() + " may be used", List.of("max", "min", "abs", "bitCount", "floorDiv", "floorMod").contains(function.group(1)));
        }
    }

    /** Rule 9: a while has a counter against a bound in its own line, a for has all its three parts. */
    private static void loops(String code) {
        Matcher other = Pattern.compile("\\bdo\\b|while \\(true").matcher(code);
        check.holds("no loop without a bound", !other.find());
        for (String line : code.split("\n")) {
            if (line.contains("while (")) {
                check.holds("a counter against a bound: " + line, line.matches(" *while \\(\\w+ < \\w+ && .*"));
            }
            if (line.contains("for (")) {
                check.holds("a counter against a bound: " + line, line.matches(" *for \\(int (\\w+) = \\w+(\\.\\w+)*; \\1 <=? [^;]+; \\1\\+\\+\\) \\{"));
            }
        }
    }

    /** Rule 11: how long methods are; a method is what stands between its first line and a brace of the same depth. */
    private static void lengths(String code) {
        Matcher method = Pattern.compile("(?m)^( {4}| {8})\\S[^\n;=]*\\) \\{\n(?:(?!\\1\\}).*\n)*\\1\\}").matcher(code);
        int methods = 0;
        while (method.find()) {
            methods++;
            long lines = method.group().lines().count();
            check.holds(lines + " lines: " + method.group().lines().findFirst().orElse(""), lines <= MOST_LINES);
        }
        check.holds("methods are found in the file: " + methods, methods > 100);
    }

    /** Rule 12, and all calls of one run live in one room: no call makes an object. */
    private static void objectsAreMadeInConstructors(String code) {
        String constructors = "(?m)^( {4}| {8})(?:public )?[A-Z]\\w*\\(\\) \\{\n(?:(?!\\1\\}).*\n)*\\1\\}";
        check.holds("objects are made", code.contains("new "));
        check.holds("objects are made in constructors alone", !Pattern.compile("\\bnew\\b").matcher(code.replaceAll(constructors, "")).find());
    }

    /** Rules 2, 3, 5, 11. */
    private static void members(Class<?> inside) {
        String name = inside.getName();
        int modifiers = inside.getModifiers();
        check.holds(name + " is a class with a name", !inside.isAnonymousClass() && !inside.isLocalClass());
        check.holds(name + " is static", inside == DoorPaints.class || Modifier.isStatic(modifiers));
        int fields = 0;
        for (Field field : inside.getDeclaredFields()) {
            boolean constant = Modifier.isStatic(field.getModifiers());
            fields += constant ? 0 : 1;
            check.holds(field + " is of a type that may be", constant ? NUMBERS.contains(field.getType()) : mayHold(field.getType()));
            check.holds(field + " is final if it is static", !constant || Modifier.isFinal(field.getModifiers()));
        }
        check.holds(name + " has some twenty fields at most", fields <= MOST_FIELDS);
        for (Method method : inside.getDeclaredMethods()) {
            check.holds(method + " takes at most seven", method.getParameterCount() <= MOST_PARAMETERS);
        }
    }

    private static boolean mayHold(Class<?> type) {
        Class<?> single = type.isArray() ? type.getComponentType() : type;
        return NUMBERS.contains(single) || single.getNestHost() == DoorPaints.class;
    }

    /** A room of 600,000 objects and 7.3 million fields and elements holds thousands of towns of this size. */
    private static void room() throws IllegalAccessException {
        Set<Object> objects = Collections.newSetFromMap(new IdentityHashMap<>());
        int small = parts(objects);
        check.holds("objects in a town, " + objects.size(), objects.size() > 100 && objects.size() <= 200);
        check.holds("fields and elements in a town, " + small, small > 500 && small <= 1500);
    }

    /** Gathers all objects of a new town; how many fields and elements they have. */
    private static int parts(Set<Object> objects) throws IllegalAccessException {
        DoorPaints town = new DoorPaints();
        ArrayDeque<Object> open = new ArrayDeque<>(List.of(town));
        int parts = 0;
        while (!open.isEmpty()) {
            Object next = open.poll();
            if (!objects.add(next)) {
                continue;
            }
            if (next.getClass().isArray()) {
                for (int i = 0; i < Array.getLength(next); i++, parts++) {
                    addObject(open, next.getClass().getComponentType(), Array.get(next, i));
                }
                continue;
            }
            for (Field field : next.getClass().getDeclaredFields()) {
                if (!Modifier.isStatic(field.getModifiers())) {
                    field.setAccessible(true);
                    addObject(open, field.getType(), field.get(next));
                    parts++;
                }
            }
        }
        return parts;
    }

    private static void addObject(ArrayDeque<Object> open, Class<?> type, Object value) {
        if (!type.isPrimitive() && value != null) {
            open.add(value);
        }
    }
}
