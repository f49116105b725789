import java.io.IOException;
import java.lang.reflect.Method;
import java.lang.reflect.Modifier;
import java.nio.file.Files;
import java.nio.file.Path;
import java.util.Arrays;
import java.util.List;
import java.util.Set;
import java.util.TreeSet;
import java.util.regex.Matcher;
import java.util.regex.Pattern;
import java.util.stream.Collectors;
import java.util.stream.Stream;

/** README.md says how to use the class and how to run its tests: what it says has to be so. */
public final class ReadmeTest {
    private static final Path README = Path.of("README.md"), TESTS = Path.of("src/test/java");

    public static void main(String[] args) throws IOException {
        String page = Files.readString(README);
        example(page);
        kinds(page);
        calls(page);
        tellers(page);
        refusals(page);
        tests(page);
        Due.end();
    }

    private static Matcher find(String page, String pattern) {
        return Pattern.compile(pattern, Pattern.MULTILINE).matcher(page);
    }

    /** Each line of the example that ends with an answer is asked; so is what the line says is told besides. */
    private static void example(String page) {
        Matcher signs = find(page, "String signs = \"([^\"]*)\"");
        Due.due("the example has a country", signs.find() ? 1 : 0, 1);
        DoorSold x = new DoorSold();
        Due.write(x, 0, signs.group(1));
        Matcher line = find(page, "^x\\.(\\w+)\\(([-\\d, ]*)\\); +// (-?\\d+): (.*)$");
        int lines = 0;
        while (line.find()) {
            lines++;
            int[] numbers = numbers(line.group(2));
            String said = "README: " + Due.said(line.group(1), numbers);
            Due.due(said, Due.answer(x, line.group(1), numbers), Long.parseLong(line.group(3)));
            toldBesides(x, said, line.group(4));
        }
        Due.due("lines of the example", lines, 13);
    }

    private static void toldBesides(DoorSold x, String said, String words) {
        Matcher teller = find(words, "(asked|finding)\\(\\) tells (\\d+)");
        while (teller.find()) {
            Due.due(said + ", " + teller.group(), Due.answer(x, teller.group(1)), Long.parseLong(teller.group(2)));
        }
        Matcher fraction = find(words, "here (\\d+) by (\\d+)");
        while (fraction.find()) {
            Due.due(said + ", upper()", x.upper(), Long.parseLong(fraction.group(1)));
            Due.due(said + ", lower()", x.lower(), Long.parseLong(fraction.group(2)));
        }
    }

    private static int[] numbers(String list) {
        return Stream.of(list.split(",")).map(String::trim).filter(n -> !n.isEmpty()).mapToInt(Integer::parseInt).toArray();
    }

    /** A door of each letter is of the kind, takes the hours, is open and costs as the table says. */
    private static void kinds(String page) {
        Matcher line = find(page, "^\\| `(\\w)` \\| (\\d) [^|]*\\| ([^|]*) \\| ([^|]*) \\| (\\d) \\| ([^|]*) \\|$");
        int lines = 0;
        while (line.find()) {
            lines++;
            DoorSold x = Due.in("n799" + line.group(1) + "257");
            String said = "README: a door of letter " + line.group(1);
            fact(x, said, 0, Integer.parseInt(line.group(2)));
            fact(x, said, 6, Integer.parseInt(line.group(5)));
            fact(x, said, 3, costBy(line.group(6)));
            for (int hour = 0; hour < 12; hour++) {
                fact(x, said + " in hour " + hour, 4, entryBy(line.group(3), hour));
                fact(x, said + " in hour " + hour, 5, openBy(line.group(4), hour) ? 1 : 0);
                x.stay();
            }
        }
        Due.due("kinds of the page", lines, 6);
    }

    private static void fact(DoorSold x, String said, int what, int want) {
        Due.told(x, said + ": door(0, " + what + ")", x.door(0, what), 1, want);
    }

    private static int costBy(String words) {
        switch (words) {
            case "its price": return 7;
            case "half, cut": return 3;
            case "half, cut, and 3 more": return 6;
            default: return Integer.parseInt(words);
        }
    }

    private static int entryBy(String words, int hour) {
        switch (words) {
            case "where it stands": return 2;
            case "one place further on with each hour": return (2 + hour) % 7;
            case "as by a back door": case "where it leads, and comes out where it stands": return 5;
            default: throw new IllegalArgumentException(words);
        }
    }

    private static boolean openBy(String words, int hour) {
        switch (words) {
            case "always": return true;
            case "in even hours": return hour % 2 == 0;
            case "in hours that 3 divides": return hour % 3 == 0;
            default: throw new IllegalArgumentException(words);
        }
    }

    /** The page's table names each call of the face once, with as many numbers as it takes, and no other. */
    private static void calls(String page) {
        List<String> named = find(part(page, "### The calls"), "`(\\w+)\\(([^)]*)\\)`").results()
            .map(m -> m.group(1) + " " + (m.group(2).isEmpty() ? 0 : m.group(2).split(",").length))
            .collect(Collectors.toList());
        Set<String> face = new TreeSet<>();
        for (Method m : DoorSold.class.getDeclaredMethods()) {
            if (Modifier.isPublic(m.getModifiers())) face.add(m.getName() + " " + m.getParameterCount());
        }
        Due.due("calls of the page", named.size(), 42);
        same("calls of the page", new TreeSet<>(named), face);
    }

    /** The table alone, without the words behind it. */
    private static String part(String page, String head) {
        int from = page.indexOf(head);
        if (from < 0) throw new IllegalArgumentException("README.md has no " + head);
        return page.substring(from).lines().skip(2).takeWhile(line -> line.startsWith("|")).collect(Collectors.joining("\n"));
    }

    /** The calls that tell by asked() change it, and the page names them. */
    private static void tellers(String page) {
        Matcher list = find(page, "a second number: ((?:[^.]|\\n)*?)\\s+by `asked\\(\\)`");
        Due.due("the page says what tells by asked()", list.find() ? 1 : 0, 1);
        Set<String> named = new TreeSet<>();
        find(list.group(1), "`(\\w+)`").results().forEach(m -> named.add(m.group(1)));
        same("calls that tell by asked()", named, callsThatTell());
    }

    private static Set<String> callsThatTell() {
        Set<String> tell = new TreeSet<>();
        for (Method m : DoorSold.class.getDeclaredMethods()) {
            if (!Modifier.isPublic(m.getModifiers())) continue;
            DoorSold x = Due.owning("n799 d000 d050 d500 u027", 1);
            Due.lay(x, 0, -70, 5);
            x.row(1, 0);
            x.at(0, 0);
            Due.answer(x, m.getName(), argumentsFor(m.getName(), m.getParameterCount()));
            if (x.asked() != -70) tell.add(m.getName());
        }
        return tell;
    }

    /** Numbers by which a call is not refused, where it would be by noughts, and by which it tells another number. */
    private static int[] argumentsFor(String name, int many) {
        switch (name) {
            case "lay": return new int[] {0, 1, 6};
            case "at": return new int[] {0, 1};
            case "fits": case "kinds": return new int[] {0, 1};
            case "shut": return new int[] {5, 0};
            case "lots": return new int[] {1, 1};
            case "mark": return new int[] {3, 1};
            case "findings": return new int[] {1};
            default: return new int[many];
        }
    }

    private static void refusals(String page) {
        List<String> named = find(page, "^\\| `([A-Z]+)` (-\\d) \\|").results()
            .map(m -> m.group(1) + " " + m.group(2)).collect(Collectors.toList());
        same("answers that are none", new TreeSet<>(named), new TreeSet<>(Arrays.asList("BAD " + DoorSold.BAD,
            "FULL " + DoorSold.FULL, "FINDING " + DoorSold.FINDING, "STATE " + DoorSold.STATE,
            "SPENT " + DoorSold.SPENT, "NONE " + DoorSold.NONE)));
    }

    private static void tests(String page) throws IOException {
        Set<String> named = new TreeSet<>();
        find(page, "^\\| (\\w+Test) \\|").results().forEach(m -> named.add(m.group(1)));
        try (Stream<Path> files = Files.list(TESTS)) {
            same("tests", named, files.map(f -> f.getFileName().toString()).filter(f -> f.endsWith("Test.java"))
                .map(f -> f.substring(0, f.length() - 5)).collect(Collectors.toCollection(TreeSet::new)));
        }
        Due.due("the page says how to run them", find(page, "^    \\.ci/run$").find() ? 1 : 0, 1);
        Due.due("that can be run", Files.isExecutable(Path.of(".ci/run")) ? 1 : 0, 1);
    }

    private static void same(String what, Set<String> said, Set<String> is) {
        Due.due(what + ": README.md says " + said + ", there are " + is, said.equals(is) ? 1 : 0, 1);
    }
}
