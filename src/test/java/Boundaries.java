import java.io.IOException;
import java.nio.file.Files;
import java.nio.file.Path;
import java.util.ArrayList;
import java.util.Arrays;
import java.util.LinkedHashMap;
import java.util.List;
import java.util.Map;

/**
 * The ground of the boundary tests. A test stands under a heading of ../shared/DOC.md and bears the sentence
 * there that names its boundary case. end() fails, too, if a sentence does not stand in the document like that,
 * or if something stands there that no test bears.
 */
abstract class Boundaries {
    interface Call {
        long of(OnlyStrangersHear x);
    }

    interface NumberCall {
        long of(OnlyStrangersHear x, int v);
    }

    interface Start {
        OnlyStrangersHear make();
    }

    private static final Path DOCUMENT = Path.of("../shared/DOC.md");

    /** As many BELLS and PEOPLE as there can be, of all KINDS. */
    static final String FULL = "b041;b122;b233;b091;b102;b111;pp005;pl703;po099;pw512;pd320;pc000;pp000;pp008;";

    static final int LEAST = Integer.MIN_VALUE;
    static final int GREATEST = Integer.MAX_VALUE;

    /** From what a call counts its refusals down; most just answer them. */
    static final long PLAIN = 0L;
    static final long COST = 1000000000L;
    static final long LONG = 4000000000000000000L;

    private static final Map<String, List<String>> QUOTES = new LinkedHashMap<>();
    private static String heading = "";
    private static String sentence = "";
    private static int tests = 0;
    private static int answers = 0;
    private static int wrong = 0;

    // ---- tests ----

    static void under(String title) {
        heading = title;
        QUOTES.putIfAbsent(title, new ArrayList<>());
    }

    /** The test of the boundary case that a sentence names. */
    static void edge(String quote, Runnable body) {
        QUOTES.get(heading).add(quote);
        sentence = quote;
        tests++;
        int before = answers;
        try {
            body.run();
        } catch (RuntimeException e) {
            fail("threw " + e);
        }
        if (answers == before) {
            fail("looks at no answer");
        }
    }

    /** A part of the document that names no boundary case. */
    static void plain(String quote) {
        QUOTES.get(heading).add(quote);
    }

    private static void fail(String what) {
        wrong++;
        System.out.println(heading + " | " + sentence + " | " + what);
    }

    static void due(String what, long got, long want) {
        answers++;
        if (got != want) {
            fail(what + " answered " + got + ", due is " + want);
        }
    }

    static void same(String what, List<Long> got, List<Long> want) {
        answers++;
        if (!got.equals(want)) {
            fail(what + ": " + got + ", due is " + want);
        }
    }

    // ---- towns ----

    static int tell(OnlyStrangersHear x, String text) {
        for (int i = 0; i < text.length(); i++) {
            x.letter(text.charAt(i));
        }
        return x.town();
    }

    /** What town() answers to a text told to a new object. */
    static int told(String text) {
        return tell(new OnlyStrangersHear(), text);
    }

    /** A new object to which these texts have been told, each as a town. */
    static OnlyStrangersHear at(String... texts) {
        OnlyStrangersHear x = new OnlyStrangersHear();
        for (String text : texts) {
            int answer = tell(x, text);
            if (answer < 1) {
                fail("the town " + text + " answered " + answer);
            }
        }
        return x;
    }

    /** A text that passes so many DAYS; 999 take 68 letters. */
    static String passing(int n) {
        return "d60;".repeat(n / 60) + (n % 60 == 0 ? "" : "d" + n % 60 / 10 + n % 10 + ";");
    }

    static void fill(OnlyStrangersHear x, int... numbers) {
        x.clear();
        for (int v : numbers) {
            x.row(v);
        }
    }

    /** So many numbers alike, and others behind them. */
    static int[] row(int many, int v, int... others) {
        int[] all = new int[many + others.length];
        Arrays.fill(all, 0, many, v);
        System.arraycopy(others, 0, all, many, others.length);
        return all;
    }

    /** All that can be seen of an object but its REFUSALS. */
    static List<Long> seen(OnlyStrangersHear x) {
        List<Long> all = new ArrayList<>();
        for (int what = 0; what <= 7; what++) {
            all.add((long) x.count(what));
        }
        for (int b = 0; b < x.count(0); b++) {
            all.add((long) x.bell(b, 0));
            all.add((long) x.bell(b, 1));
        }
        for (int p = 0; p < x.count(1); p++) {
            for (int what = 0; what <= 3; what++) {
                all.add((long) x.person(p, what));
            }
        }
        return all;
    }

    static List<Long> refusals(OnlyStrangersHear x) {
        List<Long> all = new ArrayList<>();
        for (int what = 11; what <= 16; what++) {
            all.add((long) x.count(what));
        }
        return all;
    }

    // ---- refusals ----

    /** A town with an image that is otherwise, a true number in the ROW and letters that tell a statement. */
    static OnlyStrangersHear prepared(String text) {
        OnlyStrangersHear x = text.isEmpty() ? new OnlyStrangersHear() : at(text);
        int beds = x.beds(6);
        x.image();
        x.beds(beds);
        x.row(x.count(4));
        x.letter('e');
        x.letter('5');
        x.letter(';');
        return x;
    }

    static void refused(String text, String what, Call call, int no) {
        refused(text, what, call, no, PLAIN);
    }

    static void refused(String text, String what, Call call, int no, long from) {
        refused(() -> prepared(text), what, call, no, from);
    }

    /** The call answers the refusal, and all is as it is with a twin who had no such call, but one refusal. */
    static void refused(Start start, String what, Call call, int no, long from) {
        OnlyStrangersHear x = start.make();
        OnlyStrangersHear twin = start.make();
        List<Long> counts = refusals(x);
        due(what, call.of(x), from == PLAIN ? no : from - no);
        counts.set(-no - 1, counts.get(-no - 1) + 1);
        same(what + ", how many refusals there were", refusals(x), counts);
        same(what + ", all else", allIn(x), allIn(twin));
    }

    /** What is seen, and what comes of the ROW, the letters and the image. */
    private static List<Long> allIn(OnlyStrangersHear x) {
        List<Long> all = seen(x);
        all.add((long) x.judge());
        all.add((long) x.town());
        all.addAll(seen(x));
        all.add((long) x.on());
        all.addAll(seen(x));
        return all;
    }

    static void taken(String text, String what, Call call) {
        OnlyStrangersHear x = prepared(text);
        List<Long> counts = refusals(x);
        call.of(x);
        same(what + ", not refused", refusals(x), counts);
    }

    /** Numbers of BELLS: none in a new object, 0 alone with one, 0 to 5 with six. */
    static void bells(String what, NumberCall call, long from) {
        numbers("pp000;pp000;", 0, what, call, from);
        numbers("pp000;pp000;b041;", 1, what, call, from);
        numbers(FULL, 6, what, call, from);
    }

    /** Numbers of PEOPLE: none in a new object, 0 alone with one, 0 to 7 with eight. */
    static void people(String what, NumberCall call, long from) {
        numbers("b041;", 0, what, call, from);
        numbers("b041;pp000;", 1, what, call, from);
        numbers(FULL, 8, what, call, from);
    }

    static void numbers(String text, int many, String what, NumberCall call, long from) {
        for (int v : new int[] {-1, many, LEAST, GREATEST}) {
            refused(text, what + " of " + v + " with " + many, x -> call.of(x, v), -1, from);
        }
        for (int v = 0; v < many; v++) {
            int number = v;
            taken(text, what + " of " + v + " with " + many, x -> call.of(x, number));
        }
    }

    /** Choices from 0: of what, KIND or part. */
    static void choices(int many, String what, NumberCall call, long from) {
        for (int v : new int[] {-1, many, LEAST, GREATEST}) {
            refused(FULL, what + " with " + v, x -> call.of(x, v), -2, from);
        }
        for (int v = 0; v < many; v++) {
            int number = v;
            taken(FULL, what + " with " + v, x -> call.of(x, number));
        }
    }

    static void least(int least, String what, NumberCall call, long from) {
        for (int v : new int[] {least - 1, LEAST}) {
            refused(FULL, what + " with " + v, x -> call.of(x, v), -4, from);
        }
        taken(FULL, what + " with " + least, x -> call.of(x, least));
    }

    static void greatest(int greatest, String what, NumberCall call, long from) {
        for (int v : new int[] {greatest + 1, GREATEST}) {
            refused(FULL, what + " with " + v, x -> call.of(x, v), -6, from);
        }
        taken(FULL, what + " with " + greatest, x -> call.of(x, greatest));
    }

    static void bells(String what, NumberCall call) {
        bells(what, call, PLAIN);
    }

    static void people(String what, NumberCall call) {
        people(what, call, PLAIN);
    }

    static void choices(int many, String what, NumberCall call) {
        choices(many, what, call, PLAIN);
    }

    static void least(int least, String what, NumberCall call) {
        least(least, what, call, PLAIN);
    }

    static void greatest(int greatest, String what, NumberCall call) {
        greatest(greatest, what, call, PLAIN);
    }

    // ---- the document ----

    /** Ends the tests; under these headings every word of the document has to stand in a test's sentence. */
    static void end(String... whole) {
        if (Files.exists(DOCUMENT)) {
            for (String title : whole) {
                QUOTES.putIfAbsent(title, new ArrayList<>());
            }
            for (String title : QUOTES.keySet()) {
                lookUp(title, Arrays.asList(whole).contains(title));
            }
        } else {
            System.out.println("no " + DOCUMENT + " to look the sentences up in");
        }
        System.out.println(wrong == 0
                ? tests + " boundary cases hold, " + answers + " answers"
                : wrong + " faults in " + tests + " boundary cases");
        if (wrong != 0) {
            System.exit(1);
        }
    }

    private static void lookUp(String title, boolean isWhole) {
        String text = section(title);
        boolean[] isQuoted = new boolean[text.length()];
        heading = title;
        for (String quote : QUOTES.get(title)) {
            sentence = quote;
            if (!mark(text, quote, isQuoted)) {
                fail("does not stand in the document");
            }
        }
        if (isWhole) {
            sentence = "";
            tellUnquoted(text, isQuoted);
        }
    }

    private static String section(String title) {
        StringBuilder text = new StringBuilder();
        boolean isInside = false;
        try {
            for (String line : Files.readAllLines(DOCUMENT)) {
                if (line.startsWith("## ")) {
                    isInside = line.equals("## " + title);
                } else if (isInside && !line.startsWith("```")) {
                    text.append(line.strip()).append(' ');
                }
            }
        } catch (IOException e) {
            fail("could not be read: " + e);
        }
        return text.toString().strip().replaceFirst("^`[^`]*`: ", "");
    }

    /** Short sentences stand there more than once: each test takes the next place that none has taken. */
    private static boolean mark(String text, String quote, boolean[] isQuoted) {
        boolean isThere = false;
        for (int from = text.indexOf(quote); from >= 0; from = text.indexOf(quote, from + 1)) {
            isThere = true;
            boolean isNew = false;
            for (int i = from; i < from + quote.length(); i++) {
                isNew |= !isQuoted[i];
                isQuoted[i] = true;
            }
            if (isNew) {
                break;
            }
        }
        return isThere;
    }

    private static void tellUnquoted(String text, boolean[] isQuoted) {
        for (int from = 0; from < text.length(); from++) {
            int to = from;
            while (to < text.length() && !isQuoted[to]) {
                to++;
            }
            String rest = text.substring(from, to);
            if (rest.chars().anyMatch(Character::isLetterOrDigit)) {
                fail("no test bears: " + rest);
            }
            from = Math.max(from, to);
        }
    }
}
