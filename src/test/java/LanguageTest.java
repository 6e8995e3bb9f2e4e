import java.lang.reflect.Constructor;
import java.lang.reflect.Field;
import java.lang.reflect.Method;
import java.lang.reflect.Modifier;
import java.nio.file.Files;
import java.nio.file.Path;
import java.util.ArrayList;
import java.util.Arrays;
import java.util.List;
import java.util.TreeSet;
import java.util.regex.Matcher;
import java.util.regex.Pattern;

/** Rules of LANGUAGE.md that show in the class's text and in its face. */
public final class LanguageTest {
    // Each is a rule's number and what must not stand in the class's text, comments left out.
    private static final String[][] NOT_ALLOWED = {
        {"1", "\\bpackage\\s"}, {"1", "\\bprotected\\b"},
        {"2", "::"}, {"2", "->(?<!(case [^;{]{0,200}|default ?)->)"},
        {"4", "\\bimport (?!java\\.util\\.(ArrayList|Arrays|Iterator|List);)"}, {"4", "Exact\\b"},
        {"5", "\\bstatic\\s*\\{"},
        {"6", "\\b(throw|throws|try|catch|finally|synchronized|assert)\\b"},
        {"6", "\\b(boolean equals|int hashCode|String toString)\\("},
        {"13", "\\bSystem\\.(?!arraycopy\\b)"}, {"13", "\\b(Thread|Random|Runtime|native|volatile)\\b"},
        {"13", "\\bMath\\.random\\b"}};
    private static final int MOST_LINES = 60;
    private static final int MOST_PARAMETERS = 7;
    private static final int MOST_CLASSES = 12;
    private static final int MOST_FIELDS = 20;

    public static void main(String[] args) throws Exception {
        text(Files.readString(Path.of("src/main/java/TapeEnds.java")));
        face();
        classesInside();
        fieldsInside();
        methodsInside();
        Check.end();
    }

    private static void text(String source) {
        String code = source.replaceAll("(?s)/\\*.*?\\*/", "").replaceAll("//[^\n]*", "");
        for (String[] rule : NOT_ALLOWED) {
            if (Pattern.compile(rule[1]).matcher(code).find()) {
                Check.tell("rule " + rule[0] + ": the class has " + rule[1]);
            }
        }
        for (int i = 0; i < source.length(); i++) {
            if (source.charAt(i) > 126) {
                Check.tell("rule 4: the class has a sign above 126 at " + i);
            }
        }
        methodLengths(source.split("\n"));
    }

    private static void methodLengths(String[] lines) {
        Pattern head = Pattern.compile("( {4}| {8})((public|private|static|final) )*[\\w<>\\[\\]]+ ?\\w*\\([^;]*\\) \\{");
        for (int first = 0; first < lines.length; first++) {
            Matcher method = head.matcher(lines[first]);
            int last = first;
            while (method.matches() && last < lines.length && !lines[last].equals(method.group(1) + "}")) {
                last++;
            }
            if (last - first + 1 > MOST_LINES) {
                Check.tell("rule 11: long: " + lines[first].trim());
            }
        }
    }

    private static List<String> visibleMembers() {
        List<String> members = new ArrayList<>();
        for (Field field : TapeEnds.class.getDeclaredFields()) {
            if (!Modifier.isPrivate(field.getModifiers())) {
                members.add(Modifier.toString(field.getModifiers()) + " " + field.getType() + " " + field.getName());
            }
        }
        for (Constructor<?> made : TapeEnds.class.getDeclaredConstructors()) {
            members.add(Modifier.toString(made.getModifiers()) + " new" + Arrays.toString(made.getParameterTypes()));
        }
        for (Method method : TapeEnds.class.getDeclaredMethods()) {
            if (!Modifier.isPrivate(method.getModifiers())) {
                members.add(Modifier.toString(method.getModifiers()) + " " + method.getReturnType() + " "
                    + method.getName() + Arrays.toString(method.getParameterTypes()));
            }
        }
        return members;
    }

    private static void face() {
        List<String> wants = new ArrayList<>();
        for (String name : "NO_SUCH BAD_VALUE BAD_TEXT TOO_MANY NOT_POSSIBLE NONE".split(" ")) {
            wants.add("public static final int " + name);
        }
        wants.add("public new[]");
        wants.add("public int put[long]");
        String[][] byParameters = {{"rewind", "wipe", "fault", "carryOut", "undo"},
            {"length", "move", "at", "count", "fits", "rooms", "nearest", "save", "restore"},
            {"tune", "cut", "splice", "ofFile"}, {"write", "read", "ofBlock"}};
        for (int parameters = 0; parameters < byParameters.length; parameters++) {
            String[] types = new String[parameters];
            Arrays.fill(types, "int");
            for (String name : byParameters[parameters]) {
                wants.add("public int " + name + Arrays.toString(types));
            }
        }
        TreeSet<String> got = new TreeSet<>(visibleMembers());
        if (!got.equals(new TreeSet<>(wants))) {
            Check.tell("the face is " + got + ", due is " + new TreeSet<>(wants));
        }
        Check.due("NO_SUCH", TapeEnds.NO_SUCH, -1);
        Check.due("BAD_VALUE", TapeEnds.BAD_VALUE, -2);
        Check.due("BAD_TEXT", TapeEnds.BAD_TEXT, -3);
        Check.due("TOO_MANY", TapeEnds.TOO_MANY, -4);
        Check.due("NOT_POSSIBLE", TapeEnds.NOT_POSSIBLE, -5);
        Check.due("NONE", TapeEnds.NONE, -6);
        if (!Modifier.isFinal(TapeEnds.class.getModifiers())) {
            Check.tell("the class is not final");
        }
    }

    private static List<Class<?>> allClasses() {
        List<Class<?>> classes = new ArrayList<>();
        classes.add(TapeEnds.class);
        classes.addAll(Arrays.asList(TapeEnds.class.getDeclaredClasses()));
        return classes;
    }

    private static void classesInside() {
        for (Class<?> inside : TapeEnds.class.getDeclaredClasses()) {
            if (!Modifier.isStatic(inside.getModifiers()) || Modifier.isPublic(inside.getModifiers())
                || Modifier.isProtected(inside.getModifiers())) {
                Check.tell("rule 1: " + inside.getName() + " is not a hidden static class");
            }
        }
        if (allClasses().size() > MOST_CLASSES) {
            Check.tell("rule 11: there are " + allClasses().size() + " classes");
        }
    }

    private static void fieldsInside() {
        for (Class<?> one : allClasses()) {
            int fields = 0;
            for (Field field : one.getDeclaredFields()) {
                if (!Modifier.isStatic(field.getModifiers())) {
                    fields++;
                } else if (!Modifier.isFinal(field.getModifiers())) {
                    Check.tell("rule 5: " + one.getName() + " has static state");
                }
            }
            if (fields > MOST_FIELDS) {
                Check.tell("rule 11: " + one.getName() + " has " + fields + " fields");
            }
        }
    }

    private static void methodsInside() {
        TreeSet<String> publicNames = new TreeSet<>();
        for (Method method : TapeEnds.class.getDeclaredMethods()) {
            if (Modifier.isPublic(method.getModifiers())) {
                publicNames.add(method.getName());
            }
        }
        for (Class<?> one : allClasses()) {
            for (Method method : one.getDeclaredMethods()) {
                if (Modifier.isPrivate(method.getModifiers()) && publicNames.contains(method.getName())) {
                    Check.tell("rule 1: a private method bears the public name " + method.getName());
                }
                if (method.getParameterCount() > MOST_PARAMETERS) {
                    Check.tell("rule 11: " + method.getName() + " has too many parameters");
                }
            }
        }
    }
}
