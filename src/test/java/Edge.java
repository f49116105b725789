import java.io.IOException;
import java.nio.file.Files;
import java.nio.file.Path;
import java.util.ArrayList;
import java.util.Comparator;
import java.util.List;
import java.util.Map;
import java.util.TreeMap;
import java.util.function.Supplier;
import java.util.regex.Matcher;
import java.util.regex.Pattern;

/**
 * What the tests of boundary cases share. Each of them quotes the words of the document that name its case: the words
 * have to stand there, and in the end the document may name no case that none has quoted.
 */
final class Edge {
    static final int BAD = DoorSold.BAD, FULL = DoorSold.FULL, FINDING = DoorSold.FINDING, STATE = DoorSold.STATE,
        SPENT = DoorSold.SPENT, NONE = DoorSold.NONE;
    static final int NOTHING = 1, BEYOND = 2, UNLIKE = 3, NOUGHT = 4, SIZE = 5;
    static final int LEAST = Integer.MIN_VALUE, MOST = Integer.MAX_VALUE;
    /** What stands ahead of the promises, as a number of a promise. */
    static final int TERMS = 0;

    private static final Path DOCUMENT = Path.of("../shared/DOC.md");
    /** Where the document is not at hand the cases are tested all the same, but their words can't be compared. */
    private static final boolean THERE = Files.isRegularFile(DOCUMENT);
    private static final Pattern PROMISE = Pattern.compile("## Promise (\\d+): .*");
    /** Words that name a boundary case. */
    private static final Pattern CASE = Pattern.compile("BAD|FULL|STATE|SPENT|NONE|NOTHING|BEYOND|UNLIKE|NOUGHT|SIZE"
        + "|\\w \\.\\. \\w|\\b(above|below|cut|anew|missing|before|alone|aside|modulo)\\b|at (least|most|first)"
        + "|or (fewer|sooner)|round the ring|last one|too early|: now|no DOOR|BOUGHT or not|in this HOUR");

    private static final Map<Integer, String> words = new TreeMap<>();
    private static final List<String> quoted = new ArrayList<>();
    private static final List<Integer> quotedOf = new ArrayList<>();
    private static String about = "";
    private static int answers = 0;

    private Edge() {
    }

    /** The words that the answers to come are asked for by. */
    static void of(int promise, String quote) {
        endOfQuote();
        about = (promise == TERMS ? "terms" : "promise " + promise) + ", '" + quote + "': ";
        if (THERE) Due.due(about + "stands in the document", wordsOf(promise).contains(quote) ? 1 : 0, 1);
        quoted.add(quote);
        quotedOf.add(promise);
        answers = 0;
    }

    private static void endOfQuote() {
        if (!about.isEmpty()) Due.due(about + "was tested", answers > 0 ? 1 : 0, 1);
    }

    private static void compare(String call, long got, long want) {
        answers++;
        Due.due(about + call, got, want);
    }

    static void due(DoorSold x, long want, String name, int... args) {
        compare(Due.said(name, args), Due.answer(x, name, args), want);
    }

    /** The call's answer, and what is told by asked(). */
    static void told(DoorSold x, long want, int asked, String name, int... args) {
        due(x, want, name, args);
        compare(Due.said(name, args) + ", asked()", x.asked(), asked);
    }

    /** Chances or a mean by the call, told by upper(), lower(). */
    static void tells(DoorSold x, long upper, long lower, String name, int... args) {
        due(x, 1, name, args);
        compare(Due.said(name, args) + ", upper()", x.upper(), upper);
        compare(Due.said(name, args) + ", lower()", x.lower(), lower);
    }

    /** The call is refused, or looks only: it changes nothing. */
    static void keepsAll(Supplier<DoorSold> made, long want, String name, int... args) {
        DoorSold x = made.get();
        due(x, want, name, args);
        dueAsBefore(Due.said(name, args), x, made.get(), 0);
    }

    static void refuses(Supplier<DoorSold> made, int refusal, String name, int... args) {
        keepsAll(made, refusal, name, args);
    }

    /** The call is refused by a FINDING, and changes nothing but what tells by it. */
    static void finds(Supplier<DoorSold> made, int finding, String name, int... args) {
        DoorSold x = made.get();
        due(x, FINDING, name, args);
        compare(Due.said(name, args) + ", finding()", x.finding(), finding);
        dueAsBefore(Due.said(name, args), x, made.get(), finding);
    }

    /** One of the call's numbers may be from the least to the most; beyond them the call is BAD. */
    static void bounds(Supplier<DoorSold> made, int which, int least, int most, String name, int... args) {
        int[] with = args.clone();
        for (int v : new int[] {least, most}) {
            with[which] = v;
            compare(Due.said(name, with) + " is BAD", Due.answer(made.get(), name, with) == BAD ? 1 : 0, 0);
        }
        for (int v : new int[] {LEAST, least - 1, most + 1, MOST}) {
            with[which] = v;
            refuses(made, BAD, name, with);
        }
    }

    /** Whether nothing was changed: all is as in another one that did not get the call, also what may be undone. */
    private static void dueAsBefore(String call, DoorSold x, DoorSold untouched, int finding) {
        String then = call + " changes nothing, ";
        if (finding == 0) compare(then + "finding()", x.finding(), untouched.finding());
        for (int f = 1; f <= 5; f++) {
            int more = f == finding ? 1 : 0;
            compare(then + "findings(" + f + ")", x.findings(f), untouched.findings(f) + more);
        }
        compare(then + "asked()", x.asked(), untouched.asked());
        compare(then + "upper()", x.upper(), untouched.upper());
        compare(then + "lower()", x.lower(), untouched.lower());
        dueAlike(then, x, untouched);
        for (int k = 0; k < 3; k++) {
            compare(then + "on(" + k + ")", x.on(k), untouched.on(k));
            dueAlike(then + "on(" + k + "), ", x, untouched);
        }
    }

    private static void dueAlike(String then, DoorSold x, DoorSold y) {
        compare(then + "digest()", x.digest(), y.digest());
        for (int n = y.count(5) - 1; n >= 0; n--) {
            compare(then + "undo(" + n + ")", x.undo(n), y.undo(n));
            compare(then + "undo(" + n + "), digest()", x.digest(), y.digest());
        }
    }

    /** An object in which there is something of everything, so that a change of anything is seen. */
    static DoorSold busy() {
        DoorSold x = Due.in(Due.ALL_KINDS);
        x.keep(2);
        x.buy(0);
        x.buy(1);
        x.set(1);
        x.stay();
        x.keep(0);
        x.odds(3, 1, 5);
        x.road();
        Due.lay(x, 1, 5, -6, 7);
        x.row(4, 0);
        Due.write(x, 2, "n2" + (char) 200);
        x.at(1, 1);
        x.tear(5);
        return x;
    }

    /** In the country, after so many HOURS of WAITING, all DOORS not BOUGHT. */
    static DoorSold after(int waiting, String country) {
        return withDeeds(waiting, country, 0);
    }

    /** In the country, the first DOORS BOUGHT, then WAITING until there are so many DEEDS. */
    static DoorSold withDeeds(int deeds, String country, int doors) {
        DoorSold x = Due.owning(country, doors);
        for (int d = doors; d < deeds; d++) x.stay();
        return x;
    }

    /** No case may be left in the document that was not quoted. */
    static void end() {
        endOfQuote();
        about = "";
        if (!THERE) {
            System.out.println("without " + DOCUMENT + ": no words are compared");
            return;
        }
        for (int promise : words.keySet()) {
            Matcher left = CASE.matcher(unquoted(promise));
            while (left.find()) Due.due("promise " + promise + " names a case without a test: " + left.group(), 1, 0);
        }
        Due.due("promises in the document", words.size() - 1, 43);
    }

    private static String unquoted(int promise) {
        List<String> quotes = new ArrayList<>();
        for (int q = 0; q < quoted.size(); q++) {
            if (quotedOf.get(q) == promise) quotes.add(quoted.get(q));
        }
        quotes.sort(Comparator.comparingInt(String::length).reversed());
        String left = words.get(promise);
        for (String quote : quotes) left = left.replace(quote, "#");
        return left;
    }

    private static String wordsOf(int promise) {
        if (words.isEmpty()) read();
        return words.getOrDefault(promise, "");
    }

    /** The face and what is not promised name no cases of their own. */
    private static void read() {
        int part = -1;
        try {
            for (String line : Files.readAllLines(DOCUMENT)) {
                Matcher head = PROMISE.matcher(line);
                if (head.matches()) part = Integer.parseInt(head.group(1));
                else if (line.equals("## What it is") || line.equals("## Terms")) part = TERMS;
                else if (line.startsWith("## ")) part = -1;
                else if (part >= 0) words.merge(part, line + "\n", String::concat);
            }
        } catch (IOException e) {
            throw new IllegalStateException("the document is not where it should be: " + DOCUMENT, e);
        }
    }
}
