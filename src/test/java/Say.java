import java.nio.file.Files;
import java.nio.file.Path;
import java.util.NoSuchElementException;

/** What the tests of the document's sentences share: each answer is asked for under the sentence that it comes from. */
final class Say {
    static final int NONE = -1;
    static final int HIDDEN = -1000000;
    static final int THROWN = Integer.MIN_VALUE;
    static final int[] FAR = {Integer.MIN_VALUE, Integer.MIN_VALUE + 1, -1000000, Integer.MAX_VALUE - 1, Integer.MAX_VALUE};

    private static final String DOCUMENT = document();
    private static String sentence = "";
    private static int sentences = 0;
    private static int asked = 0;
    private static int wrong = 0;
    private static int shown = 0;

    private Say() { }

    static String document() {
        try {
            return plain(Files.readString(Path.of("../shared/DOC.md")));
        } catch (java.io.IOException e) {
            throw new AssertionError(e);
        }
    }

    static String plain(String text) {
        return text.replace("```text", " ").replace("```", " ").replaceAll("\\s+", " ");
    }

    /** What stands under '==== n.' of the Terms. */
    static String term(int n) {
        int from = DOCUMENT.indexOf("==== " + n + ". ") + ("==== " + n + ". ").length();
        int to = DOCUMENT.indexOf(n < 4 ? "==== " + (n + 1) + ". " : "The constants: ", from);
        return DOCUMENT.substring(from, to);
    }

    /** What stands under '## Promise n', behind the call's face. */
    static String promise(int n) {
        int head = DOCUMENT.indexOf("## Promise " + n + ":");
        int from = DOCUMENT.indexOf("`: ", head) + 3;
        int to = DOCUMENT.indexOf("## ", from);
        return DOCUMENT.substring(from, to);
    }

    /** From here on, answers are due by this sentence of the Terms. */
    static void inTerms(int n, String text) {
        begin("Terms " + n + ": ", term(n), text);
    }

    /** From here on, answers are due by this sentence of a promise. */
    static void inPromise(int n, String text) {
        begin("Promise " + n + ": ", promise(n), text);
    }

    private static void begin(String where, String whole, String text) {
        sentence = where + text;
        sentences++;
        if (!whole.contains(text)) fault("the document does not say so");
    }

    private static void fault(String what) {
        wrong++;
        shown++;
        if (shown <= 40) System.out.println("'" + sentence + "': " + what);
    }

    static void due(String call, long got, long want) {
        asked++;
        if (got != want) fault(call + " answered " + got + ", due is " + want);
    }

    static void due(String call, boolean got, boolean want) {
        asked++;
        if (got != want) fault(call + " answered " + got + ", due is " + want);
    }

    static void end() {
        System.out.println(sentences + " sentences, " + asked + " answers asked for, " + wrong + " not as due");
        if (wrong > 0) System.exit(1);
    }

    // ---- texts

    static int[] words(String t) {
        int[] w = new int[5];
        for (int i = 0; i < t.length(); i++) w[i / 4] |= t.charAt(i) << 24 - 8 * (i % 4);
        return w;
    }

    /** The TAPE has that text alone. */
    static void put(FedClocks x, String t) {
        x.end(0);
        add(x, t);
    }

    static int add(FedClocks x, String t) {
        int bytes = x.count(4);
        for (int i = 0; i < t.length(); i += 20) {
            int[] w = words(t.substring(i, Math.min(t.length(), i + 20)));
            bytes = x.feed(w[0], w[1], w[2], w[3], w[4]);
        }
        return bytes;
    }

    static int tell(FedClocks x, String t) {
        put(x, t);
        return x.text(0);
    }

    /** An object with that HOUSE, by a TASTE, if one is told. */
    static FedClocks house(String t, String... taste) {
        FedClocks x = new FedClocks();
        if (tell(x, t) == NONE) throw new AssertionError("no HOUSE: " + t);
        for (String one : taste) like(x, one);
        return x;
    }

    static void like(FedClocks x, String t) {
        put(x, t);
        int taste = x.text(1);
        if (taste == NONE || !x.taste(taste)) throw new AssertionError("no TASTE: " + t);
    }

    static int fault(String t, int sort) {
        FedClocks x = new FedClocks();
        put(x, t);
        return x.fault(sort);
    }

    static void faultOf(String t, int sort, int want) {
        due("fault(" + sort + ") of '" + t + "'", fault(t, sort), want);
    }

    /** One that has died, so that its other numbers can be asked for as well. */
    static int clock(FedClocks x, int clock, int what) {
        try {
            return x.clock(clock, what);
        } catch (NoSuchElementException e) {
            return THROWN;
        }
    }

    // ---- what one may ask of an object without changing it: no more than 360 calls in all

    static String all(FedClocks x) {
        StringBuilder b = new StringBuilder();
        for (int what = 0; what <= 13; what++) b.append(x.count(what)).append(' ');
        b.append(told(x));
        for (int room = 0, rooms = x.count(0); room < rooms; room++) b.append(x.sees(room)).append(' ');
        // of the HOURS put by one number each, and all four of the latest and the oldest
        for (int i = 0, hours = x.count(11); i < hours; i++)
            for (int what = 0; what <= 3; what++)
                if (i < 6 || i > hours - 3 || what == i % 4) b.append(x.log(i, what)).append(' ');
        for (int n = 1; n <= 4; n++) b.append(x.thief(0, n, NONE)).append(' ');
        b.append(x.fault(0)).append(' ').append(x.fault(1));
        return b.toString();
    }

    /** Of all that what an IMAGE keeps. */
    static String told(FedClocks x) {
        StringBuilder b = new StringBuilder();
        b.append(x.count(6)).append(' ').append(x.count(12)).append(' ').append(x.count(13)).append("; ");
        for (int c = 0, clocks = x.count(1); c < clocks; c++) {
            for (int what = 0; what <= 12; what++) b.append(clock(x, c, what)).append(' ');
            b.append(x.shows(c)).append(' ').append(x.child(c, 0)).append(' ').append(x.ahead(c, 7)).append("; ");
        }
        for (int p = 0, persons = x.count(2); p < persons; p++) {
            for (int what = 0; what <= 4; what++) b.append(x.person(p, what)).append(' ');
            b.append(x.looks(p)).append("; ");
        }
        return b.toString();
    }
}
