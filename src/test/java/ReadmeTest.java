import java.io.IOException;
import java.lang.reflect.Method;
import java.lang.reflect.Modifier;
import java.nio.file.Files;
import java.nio.file.Path;
import java.util.ArrayList;
import java.util.Arrays;
import java.util.HashMap;
import java.util.List;
import java.util.Map;
import java.util.Set;
import java.util.TreeSet;
import java.util.regex.Matcher;
import java.util.regex.Pattern;
import java.util.stream.Collectors;
import java.util.stream.Stream;

/** What README.md shows of the class's use answers as README.md says it does. */
public final class ReadmeTest {
    private static final Pattern BLOCK = Pattern.compile("(?s)```java\n(.*?)```");
    private static final Pattern MADE = Pattern.compile("DoorPaints (\\w+) = new DoorPaints\\(\\);");
    private static final Pattern FED = Pattern.compile("for \\(char c : \"([ -!#-\\[\\]-~]*)\"\\.toCharArray\\(\\)\\) (\\w+)\\.feed\\(c\\);");
    private static final Pattern ASKED = Pattern.compile("(\\w+)\\.(\\w+)\\(([^()]*)\\); +// (-?\\d+): \\S.*");

    private static final Check check = new Check();

    public static void main(String[] args) throws IOException, ReflectiveOperationException {
        String readme = Files.readString(Path.of("README.md"));
        List<String> blocks = BLOCK.matcher(readme).results().map(found -> found.group(1)).toList();
        answers(blocks);
        everyMethodIsShown(blocks);
        otherAnswersWouldBeFound(blocks);
        constants(readme);
        tests(readme);
        check.finish();
    }

    private static void answers(List<String> blocks) throws ReflectiveOperationException {
        for (String block : blocks) {
            List<String> wrong = wrongIn(block.split("\n"));
            check.holds("README.md answers as it says: " + wrong, wrong.isEmpty());
        }
    }

    private static void everyMethodIsShown(List<String> blocks) {
        Set<String> shown = new TreeSet<>();
        for (String block : blocks) {
            for (String line : block.split("\n")) {
                Matcher asked = ASKED.matcher(line);
                if (asked.matches()) {
                    shown.add(asked.group(2));
                }
            }
        }
        for (Method method : DoorPaints.class.getDeclaredMethods()) {
            if (Modifier.isPublic(method.getModifiers())) {
                check.holds("README.md shows " + method.getName(), shown.contains(method.getName()));
            }
        }
    }

    /** Were one answer told otherwise, this test would say so, and of that line alone. */
    private static void otherAnswersWouldBeFound(List<String> blocks) throws ReflectiveOperationException {
        for (String block : blocks) {
            String[] lines = block.split("\n");
            for (int i = 0; i < lines.length; i++) {
                Matcher asked = ASKED.matcher(lines[i]);
                if (asked.matches()) {
                    String[] other = lines.clone();
                    long told = Long.parseLong(asked.group(4));
                    other[i] = lines[i].substring(0, asked.start(4)) + (told + 1) + lines[i].substring(asked.end(4));
                    check.due("complaints of " + other[i], wrongIn(other).size(), 1);
                }
            }
        }
    }

    /** Does what the lines say: those that are no such use of the class as can be done, and those that answer otherwise. */
    private static List<String> wrongIn(String[] lines) throws ReflectiveOperationException {
        Map<String, DoorPaints> towns = new HashMap<>();
        List<String> wrong = new ArrayList<>();
        int calls = 0;
        for (String line : lines) {
            Matcher made = MADE.matcher(line);
            Matcher fed = FED.matcher(line);
            Matcher asked = ASKED.matcher(line);
            if (made.matches() && !towns.containsKey(made.group(1))) {
                towns.put(made.group(1), new DoorPaints());
            } else if (fed.matches() && towns.containsKey(fed.group(2))) {
                fed.group(1).chars().forEach(towns.get(fed.group(2))::feed);
                calls += fed.group(1).length();
            } else if (asked.matches() && towns.containsKey(asked.group(1))) {
                long got = ask(towns.get(asked.group(1)), asked.group(2), asked.group(3));
                calls++;
                if (got != Long.parseLong(asked.group(4))) {
                    wrong.add(line + " answered " + got);
                }
            } else if (!line.isBlank()) {
                wrong.add("can not be done: " + line);
            }
        }
        if (calls > 512) {
            wrong.add("more than 512 calls");
        }
        return wrong;
    }

    private static long ask(DoorPaints town, String name, String told) throws ReflectiveOperationException {
        String[] words = told.isEmpty() ? new String[0] : told.split(", ");
        for (Method method : DoorPaints.class.getMethods()) {
            if (method.getDeclaringClass() == DoorPaints.class && method.getName().equals(name)) {
                Class<?>[] types = method.getParameterTypes();
                Object[] values = new Object[words.length];
                for (int i = 0; i < words.length && i < types.length; i++) {
                    values[i] = types[i] == boolean.class ? (Object) truth(words[i]) : number(words[i]);
                }
                return ((Number) method.invoke(town, values)).longValue();
            }
        }
        throw new NoSuchMethodException(name);
    }

    private static boolean truth(String word) {
        if (!word.equals("true") && !word.equals("false")) {
            throw new IllegalArgumentException(word);
        }
        return word.equals("true");
    }

    private static int number(String word) throws ReflectiveOperationException {
        String constant = "DoorPaints.";
        return word.startsWith(constant) ? DoorPaints.class.getField(word.substring(constant.length())).getInt(null) : Integer.parseInt(word);
    }

    private static void constants(String readme) throws ReflectiveOperationException {
        Set<String> named = new TreeSet<>();
        Matcher told = Pattern.compile("`([A-Z]+)` \\((-?\\d+)\\)").matcher(readme);
        while (told.find()) {
            named.add(told.group(1));
            check.due("README.md's " + told.group(1), Long.parseLong(told.group(2)), number("DoorPaints." + told.group(1)));
        }
        check.holds("README.md names the four constants, not " + named, named.equals(Set.of("BAD", "STATE", "FULL", "NONE")));
    }

    private static void tests(String readme) throws IOException {
        Set<String> named = new TreeSet<>();
        Matcher told = Pattern.compile("(?m)^- `(\\w+)`:").matcher(readme);
        while (told.find()) {
            named.add(told.group(1));
        }
        try (Stream<Path> files = Files.list(Path.of("src/test/java"))) {
            Set<String> there = files.map(file -> file.getFileName().toString()).filter(name -> name.endsWith("Test.java"))
                .map(name -> name.substring(0, name.length() - ".java".length())).collect(Collectors.toCollection(TreeSet::new));
            check.holds("README.md names the tests " + there + ", not " + named, there.equals(named));
        }
        check.holds("README.md tells of .ci/run", Arrays.asList(readme.split("\n")).contains("    .ci/run"));
        check.holds(".ci/run can be run", Files.isExecutable(Path.of(".ci/run")));
    }
}
