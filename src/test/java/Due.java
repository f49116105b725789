import java.lang.reflect.InvocationTargetException;
import java.lang.reflect.Method;
import java.util.Arrays;

/** What the tests share: answers are compared with what is due, and a test ends with exit code 1 if one differs. */
final class Due {
    /** A country with a door of each kind. */
    static final String ALL_KINDS = "n640 d039 u145 b209 k354 s247 c125";

    private static int asked = 0;
    private static int wrong = 0;

    private Due() {
    }

    static void due(String call, long got, long want) {
        asked++;
        if (got == want) return;
        wrong++;
        System.out.println(call + " answered " + got + ", due is " + want);
    }

    /** A call that tells its answer by asked(). */
    static void told(DoorSold x, String call, long got, long want, int asked) {
        due(call, got, want);
        due(call + ", asked()", x.asked(), asked);
    }

    /** A call that is refused by a FINDING, which is counted. */
    static void finds(DoorSold x, String call, java.util.function.IntSupplier made, int finding) {
        int before = x.findings(finding);
        due(call, made.getAsInt(), DoorSold.FINDING);
        due(call + ", finding()", x.finding(), finding);
        due(call + ", findings(" + finding + ")", x.findings(finding), before + 1);
    }

    /** What an object answers to a call that is told by its name. */
    static long answer(Object of, String name, int... args) {
        Class<?>[] types = new Class<?>[args.length];
        Arrays.fill(types, int.class);
        try {
            Method m = of.getClass().getDeclaredMethod(name, types);
            m.setAccessible(true);
            return ((Number) m.invoke(of, Arrays.stream(args).boxed().toArray())).longValue();
        } catch (InvocationTargetException e) {
            throw new IllegalStateException(said(name, args) + " threw", e.getCause());
        } catch (ReflectiveOperationException e) {
            throw new IllegalArgumentException("no call: " + said(name, args), e);
        }
    }

    static String said(String name, int... args) {
        String list = Arrays.toString(args);
        return name + "(" + list.substring(1, list.length() - 1) + ")";
    }

    /** Writes a text, sign by sign. */
    static void write(DoorSold x, int t, String signs) {
        x.text(t, signs.length());
        for (int i = 0; i < signs.length(); i++) x.put(t, i, signs.charAt(i));
    }

    /** A new object in the country of a text. */
    static DoorSold in(String country) {
        DoorSold x = new DoorSold();
        enter(x, country);
        return x;
    }

    /** A new object there, by which the first doors are bought. */
    static DoorSold owning(String country, int doors) {
        DoorSold x = in(country);
        for (int i = 0; i < doors; i++) {
            if (x.buy(i) < 0) throw new IllegalArgumentException("too dear: " + country);
        }
        return x;
    }

    static void enter(DoorSold x, String country) {
        write(x, 0, country);
        if (x.country(0) < 1) throw new IllegalArgumentException("not a country: " + country);
    }

    /** Writes a row anew. */
    static void lay(DoorSold x, int r, int... ints) {
        x.row(r, ints.length);
        for (int i = 0; i < ints.length; i++) x.lay(r, i, ints[i]);
    }

    static void dueRow(DoorSold x, String call, int r, int... ints) {
        for (int i = 0; i < ints.length; i++) told(x, call + ", at(" + r + ", " + i + ")", x.at(r, i), 1, ints[i]);
        due(call + ", at behind its end", x.at(r, ints.length), DoorSold.FINDING);
    }

    static void end() {
        System.out.println(asked - wrong + " answers as due, " + wrong + " not");
        if (asked == 0 || wrong != 0) System.exit(1);
    }
}
