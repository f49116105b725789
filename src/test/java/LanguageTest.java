import java.io.IOException;
import java.lang.reflect.Field;
import java.lang.reflect.Method;
import java.lang.reflect.Modifier;
import java.nio.file.Files;
import java.nio.file.Path;
import java.util.Arrays;
import java.util.List;
import java.util.Set;
import java.util.TreeSet;
import java.util.regex.Matcher;
import java.util.regex.Pattern;

/** The public face, and those rules of LANGUAGE.md that can be seen in the source or in the compiled class. */
public final class LanguageTest {
    private static final Path SOURCE = Path.of("src/main/java/DoorSold.java");
    private static final List<String> FACE = List.of("row II", "lay III", "at II", "tear I", "copy IIIII", "mean I",
        "text II", "put III", "fault I", "country I", "door II", "mark II", "road ", "stay ", "go I", "buy I", "sell I",
        "set I", "undo I", "keep I", "on I", "where I", "soonest I", "way II", "cheapest II", "shut II", "worth II",
        "fits II", "kinds II", "round I", "faces ", "chase III", "odds III", "mid II", "lots II", "asked ", "upper ",
        "lower ", "count I", "finding ", "findings I", "digest ");
    private static final Set<String> LONGS = Set.of("upper", "lower", "digest");
    private static final Set<String> CONSTANTS = Set.of("BAD", "FULL", "FINDING", "STATE", "SPENT", "NONE");

    public static void main(String[] args) throws IOException {
        face();
        fields();
        classesInside();
        String code = withoutComments(Files.readString(SOURCE));
        words(code);
        methods(code);
        Due.end();
    }

    private static void face() {
        Set<String> seen = new TreeSet<>();
        for (Method m : DoorSold.class.getDeclaredMethods()) {
            if (Modifier.isPrivate(m.getModifiers())) {
                Due.due(m.getName() + " is no private method", isOfTheFace(m.getName()) ? 1 : 0, 0);
                continue;
            }
            seen.add(m.getName() + " " + "I".repeat(m.getParameterCount()));
            for (Class<?> type : m.getParameterTypes()) Due.due(m.getName() + " takes ints", type == int.class ? 1 : 0, 1);
            Class<?> answers = LONGS.contains(m.getName()) ? long.class : int.class;
            Due.due(m.getName() + "'s answer", m.getReturnType() == answers ? 1 : 0, 1);
            Due.due(m.getName() + " is public", m.getModifiers(), Modifier.PUBLIC);
        }
        Due.due("the face: " + seen, seen.equals(new TreeSet<>(FACE)) ? 1 : 0, 1);
        Due.due("the class is public and final", DoorSold.class.getModifiers(), Modifier.PUBLIC | Modifier.FINAL);
        Due.due("one constructor", DoorSold.class.getDeclaredConstructors().length, 1);
    }

    private static boolean isOfTheFace(String name) {
        return FACE.stream().anyMatch(f -> f.startsWith(name + " "));
    }

    private static void fields() {
        for (Field f : DoorSold.class.getDeclaredFields()) {
            boolean constant = CONSTANTS.contains(f.getName());
            Due.due(f.getName() + " is private", Modifier.isPrivate(f.getModifiers()) ? 1 : 0, constant ? 0 : 1);
        }
        for (Class<?> c : allClasses()) {
            int held = 0;
            for (Field f : c.getDeclaredFields()) {
                if (!Modifier.isStatic(f.getModifiers())) held++;
                else Due.due(f.getName() + " is final", Modifier.isFinal(f.getModifiers()) ? 1 : 0, 1);
            }
            Due.due(c.getName() + " has some twenty fields", held <= 20 ? 1 : 0, 1);
        }
    }

    private static List<Class<?>> allClasses() {
        List<Class<?>> all = new java.util.ArrayList<>(Arrays.asList(DoorSold.class.getDeclaredClasses()));
        all.add(DoorSold.class);
        return all;
    }

    private static void classesInside() {
        Due.due("some twelve classes", allClasses().size() <= 12 ? 1 : 0, 1);
        for (Class<?> c : DoorSold.class.getDeclaredClasses()) {
            Due.due(c.getName() + " is static", Modifier.isStatic(c.getModifiers()) ? 1 : 0, 1);
            Due.due(c.getName() + " is private", Modifier.isPrivate(c.getModifiers()) ? 1 : 0, 1);
            for (Method m : c.getDeclaredMethods()) {
                Due.due(m.getName() + " in a class inside", isOfTheFace(m.getName()) ? 1 : 0, 0);
            }
        }
    }

    private static String withoutComments(String source) {
        return source.replaceAll("(?s)/\\*.*?\\*/", "").replaceAll("//[^\n]*", "");
    }

    private static void words(String code) {
        String[] none = {"\\bthrow\\b", "\\btry\\b", "\\bcatch\\b", "\\bsynchronized\\b", "\\bassert\\b", "->", "::",
            "\\bprotected\\b", "\\bimport\\b", "\\bpackage\\b", "\\w+Exact\\b", "\\bequals\\b", "\\bhashCode\\b",
            "\\bdouble\\b", "\\bfloat\\b", "@", "\"", "\\bstatic\\s*\\{"};
        for (String word : none) {
            Due.due("'" + word + "' is in it", Pattern.compile(word).matcher(code).find() ? 1 : 0, 0);
        }
        for (char sign : code.toCharArray()) {
            if (sign > 126) Due.due("a sign beyond 126", sign, 126);
        }
    }

    private static void methods(String code) {
        Pattern head = Pattern.compile("(?m)^( +)(?:public |private |static |final )*[\\w\\[\\]]+ (\\w+)\\(([^)]*)\\) \\{$");
        Matcher m = head.matcher(code);
        int many = 0;
        while (m.find()) {
            many++;
            int end = code.indexOf("\n" + m.group(1) + "}\n", m.end());
            long lines = code.substring(m.start(), end).lines().count();
            Due.due(m.group(2) + " is short", lines <= 60 ? 1 : 0, 1);
            int parameters = m.group(3).isEmpty() ? 0 : m.group(3).split(",").length;
            Due.due(m.group(2) + " takes seven at most", parameters <= 7 ? 1 : 0, 1);
        }
        Due.due("methods were looked at", many > 100 ? 1 : 0, 1);
    }
}
