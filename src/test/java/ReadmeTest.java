import java.lang.reflect.Field;
import java.lang.reflect.Method;
import java.lang.reflect.Modifier;
import java.nio.file.Files;
import java.nio.file.Path;
import java.util.List;
import java.util.TreeSet;
import java.util.regex.Matcher;
import java.util.regex.Pattern;
import java.util.stream.Collectors;
import java.util.stream.Stream;

/** README.md is held against the class and the tests: its example, its constants, its calls and its list of tests. */
public final class ReadmeTest {
    private static final Pattern CALL = Pattern.compile("tape\\.(\\w+)\\(([^)]*)\\); +// (-?\\d+): .*");
    private static final Pattern CONSTANT = Pattern.compile("\\| `([A-Z_]+)` \\| (-\\d+) \\|.*");
    private static final Pattern TEST = Pattern.compile("\\| `(\\w+Test)` \\|.*");
    private static final Pattern NAME = Pattern.compile("`(\\w+)`");

    public static void main(String[] args) throws Exception {
        List<String> lines = Files.readAllLines(Path.of("README.md"));
        example(lines);
        constants(lines);
        calls(lines);
        tests(lines);
        Check.end();
    }

    private static void same(String what, TreeSet<String> told, TreeSet<String> due) {
        Check.same("README.md, " + what, told.toString(), due.toString());
    }

    private static void example(List<String> lines) throws Exception {
        TapeEnds tape = new TapeEnds();
        int calls = 0;
        for (String line : lines) {
            if (!line.startsWith("tape.")) {
                continue;
            }
            Matcher call = CALL.matcher(line);
            if (call.matches()) {
                int told = Integer.parseInt(call.group(3));
                Check.due("README.md, example: " + line, answer(tape, call.group(1), call.group(2)), told);
                calls++;
            } else {
                Check.tell("README.md, a call without its answer: " + line);
            }
        }
        if (calls == 0) {
            Check.tell("README.md has no call in its example");
        }
    }

    private static int answer(TapeEnds tape, String name, String arguments) throws Exception {
        String[] told = arguments.isEmpty() ? new String[0] : arguments.split(", ");
        for (Method method : TapeEnds.class.getMethods()) {
            if (method.getName().equals(name) && method.getParameterCount() == told.length) {
                Object[] given = new Object[told.length];
                for (int i = 0; i < told.length; i++) {
                    long number = Long.decode(told[i].replace("L", ""));
                    if (method.getParameterTypes()[i] == long.class) {
                        given[i] = number;
                    } else {
                        given[i] = (int) number;
                    }
                }
                return (Integer) method.invoke(tape, given);
            }
        }
        throw new IllegalStateException("the class has no " + name + "(" + arguments + ")");
    }

    private static void constants(List<String> lines) throws Exception {
        TreeSet<String> told = new TreeSet<>();
        for (String line : lines) {
            Matcher constant = CONSTANT.matcher(line);
            if (constant.matches()) {
                told.add(constant.group(1) + " " + constant.group(2));
            }
        }
        TreeSet<String> due = new TreeSet<>();
        for (Field field : TapeEnds.class.getFields()) {
            due.add(field.getName() + " " + field.getInt(null));
        }
        same("constants", told, due);
    }

    /** The calls are what stands in the first column of the table that is headed "calls". */
    private static void calls(List<String> lines) {
        TreeSet<String> told = new TreeSet<>();
        int head = lines.indexOf("| calls | what for |");
        for (int i = head + 1; head >= 0 && i < lines.size() && lines.get(i).startsWith("| "); i++) {
            Matcher name = NAME.matcher(lines.get(i).split(" \\| ")[0]);
            while (name.find()) {
                told.add(name.group(1));
            }
        }
        TreeSet<String> due = new TreeSet<>();
        for (Method method : TapeEnds.class.getDeclaredMethods()) {
            if (Modifier.isPublic(method.getModifiers())) {
                due.add(method.getName());
            }
        }
        same("calls", told, due);
    }

    private static void tests(List<String> lines) throws Exception {
        TreeSet<String> told = new TreeSet<>();
        for (String line : lines) {
            Matcher test = TEST.matcher(line);
            if (test.matches()) {
                told.add(test.group(1));
            }
        }
        try (Stream<Path> files = Files.list(Path.of("src/test/java"))) {
            TreeSet<String> due = files.map(file -> file.getFileName().toString())
                .filter(name -> name.endsWith("Test.java"))
                .map(name -> name.substring(0, name.length() - ".java".length()))
                .collect(Collectors.toCollection(TreeSet::new));
            same("tests", told, due);
        }
    }
}
