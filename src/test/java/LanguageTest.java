import java.lang.reflect.Constructor;
import java.lang.reflect.Field;
import java.lang.reflect.Method;
import java.lang.reflect.Modifier;
import java.nio.file.Files;
import java.nio.file.Path;
import java.util.ArrayList;
import java.util.Arrays;
import java.util.List;
import java.util.TreeSet;

/** Rules of LANGUAGE.md that show in the class's text and in its face. */
public final class LanguageTest {
    private static final String[] NOT_ALLOWED = {"throw", "throws", "try", "catch", "finally", "synchronized", "assert",
        "import", "package", "protected", "native", "volatile", "System\\.out", "Thread", "hashCode", "toString",
        "instanceof", "Object", "var", "Integer", "Long"};

    public static void main(String[] args) throws Exception {
        text(Files.readString(Path.of("src/main/java/TapeEnds.java")));
        face();
        namesInside();
        Check.end();
    }

    private static void text(String source) {
        String code = source.replaceAll("(?s)/\\*.*?\\*/", "").replaceAll("//[^\n]*", "");
        for (String word : NOT_ALLOWED) {
            if (code.matches("(?s).*\\b" + word + "\\b.*")) {
                Check.tell("the class uses " + word);
            }
        }
        for (String sign : new String[] {"->", "::", "\""}) {
            if (code.contains(sign)) {
                Check.tell("the class uses " + sign);
            }
        }
        if (!code.trim().startsWith("public final class TapeEnds {")) {
            Check.tell("the class is not the first thing of its file");
        }
    }

    private static List<String> visibleMembers() {
        List<String> members = new ArrayList<>();
        for (Field field : TapeEnds.class.getDeclaredFields()) {
            if (!Modifier.isPrivate(field.getModifiers())) {
                members.add(Modifier.toString(field.getModifiers()) + " " + field.getType() + " " + field.getName());
            }
        }
        for (Constructor<?> made : TapeEnds.class.getDeclaredConstructors()) {
            members.add(Modifier.toString(made.getModifiers()) + " new" + Arrays.toString(made.getParameterTypes()));
        }
        for (Method method : TapeEnds.class.getDeclaredMethods()) {
            if (!Modifier.isPrivate(method.getModifiers())) {
                members.add(Modifier.toString(method.getModifiers()) + " " + method.getReturnType() + " "
                    + method.getName() + Arrays.toString(method.getParameterTypes()));
            }
        }
        return members;
    }

    private static void face() {
        List<String> wants = new ArrayList<>();
        for (String name : "NO_SUCH BAD_VALUE BAD_TEXT TOO_MANY NOT_POSSIBLE NONE".split(" ")) {
            wants.add("public static final int " + name);
        }
        wants.add("public new[]");
        wants.add("public int put[long]");
        String[][] byParameters = {{"rewind", "wipe", "fault", "carryOut", "undo"},
            {"length", "move", "at", "count", "fits", "rooms", "nearest", "save", "restore"},
            {"tune", "cut", "splice", "ofFile"}, {"write", "read", "ofBlock"}};
        for (int parameters = 0; parameters < byParameters.length; parameters++) {
            String[] types = new String[parameters];
            Arrays.fill(types, "int");
            for (String name : byParameters[parameters]) {
                wants.add("public int " + name + Arrays.toString(types));
            }
        }
        TreeSet<String> got = new TreeSet<>(visibleMembers());
        if (!got.equals(new TreeSet<>(wants))) {
            Check.tell("the face is " + got + ", due is " + new TreeSet<>(wants));
        }
        Check.due("NO_SUCH", TapeEnds.NO_SUCH, -1);
        Check.due("BAD_VALUE", TapeEnds.BAD_VALUE, -2);
        Check.due("BAD_TEXT", TapeEnds.BAD_TEXT, -3);
        Check.due("TOO_MANY", TapeEnds.TOO_MANY, -4);
        Check.due("NOT_POSSIBLE", TapeEnds.NOT_POSSIBLE, -5);
        Check.due("NONE", TapeEnds.NONE, -6);
        if (!Modifier.isFinal(TapeEnds.class.getModifiers())) {
            Check.tell("the class is not final");
        }
    }

    private static void namesInside() {
        TreeSet<String> publicNames = new TreeSet<>();
        for (Method method : TapeEnds.class.getDeclaredMethods()) {
            if (Modifier.isPublic(method.getModifiers())) {
                publicNames.add(method.getName());
            }
        }
        for (Method method : TapeEnds.class.getDeclaredMethods()) {
            if (!Modifier.isPublic(method.getModifiers()) && publicNames.contains(method.getName())) {
                Check.tell("a private method bears the public name " + method.getName());
            }
        }
        for (Class<?> inside : TapeEnds.class.getDeclaredClasses()) {
            if (!Modifier.isStatic(inside.getModifiers()) || Modifier.isPublic(inside.getModifiers())) {
                Check.tell(inside.getName() + " is not a hidden static class");
            }
            for (Field field : inside.getDeclaredFields()) {
                if (Modifier.isStatic(field.getModifiers()) && !Modifier.isFinal(field.getModifiers())) {
                    Check.tell(inside.getName() + " has static state");
                }
            }
            for (Method method : inside.getDeclaredMethods()) {
                if (publicNames.contains(method.getName())) {
                    Check.tell(inside.getName() + " uses the public name " + method.getName());
                }
            }
        }
    }
}
