import java.io.IOException;
import java.nio.file.Files;
import java.nio.file.Paths;
import java.util.NoSuchElementException;

/** A sheet of tests, each of which says which promise and which sentence of the document it holds. */
abstract class Sheet {
    static final int NONE = CopyKeeper.NONE;
    /** The kinds of an answer that is an exception. */
    private static final long NO_SUCH = Long.MIN_VALUE;
    private static final long ILLEGAL = Long.MIN_VALUE + 1;
    private static final String DOCUMENT = document();

    private static int promise;
    private static String sentence;
    private static int tests = 0;
    private static int asked = 0;
    private static int wrong = 0;

    interface Call {
        long ask();
    }

    private static String document() {
        try {
            return Files.readString(Paths.get("../shared/DOC.md")).replaceAll("\\s+", " ");
        } catch (IOException e) {
            throw new IllegalStateException("../shared/DOC.md is not there", e);
        }
    }

    private static String part(String from, String to) {
        int start = DOCUMENT.indexOf(from);
        int end = DOCUMENT.indexOf(to, start + 1);
        return start < 0 || end < 0 ? "" : DOCUMENT.substring(start, end);
    }

    /** A sentence stands under the promise's heading, or under one of those that go for all. */
    private static boolean stands(int number, String text) {
        String next = number < 27 ? "## Promise " + (number + 1) + ":" : "## Not promised";
        return part("## Promise " + number + ":", next).contains(text) || part("## Terms", "## Promise 1:").contains(text)
                || part("## What it is", "## The public face").contains(text)
                || DOCUMENT.substring(DOCUMENT.indexOf("## Not promised")).contains(text);
    }

    /** One test: a promise by its number, the sentence in the document's words, and what is asked. */
    static void holds(int number, String text, Runnable test) {
        promise = number;
        sentence = text;
        tests++;
        if (!stands(number, text)) tell("the document has no such sentence there");
        int before = asked;
        try {
            test.run();
        } catch (RuntimeException e) {
            tell("a call threw " + e);
        }
        if (asked == before) tell("the test asks nothing");
    }

    private static void tell(String what) {
        wrong++;
        System.out.println("promise " + promise + ", \"" + sentence + "\": " + what);
    }

    static void is(String name, long want, long got) {
        asked++;
        if (got != want) tell(name + " answered " + got + ", due is " + want);
    }

    static void same(String name, String want, String got) {
        asked++;
        if (!got.equals(want)) tell(name + ": it was\n" + want + "\nand is\n" + got);
    }

    static void noSuch(String name, Call call) {
        is(name + " (the least long: NoSuchElementException)", NO_SUCH, kind(call));
    }

    static void illegal(String name, Call call) {
        is(name + " (one above the least long: IllegalArgumentException)", ILLEGAL, kind(call));
    }

    private static long kind(Call call) {
        try {
            return call.ask();
        } catch (NoSuchElementException e) {
            return NO_SUCH;
        } catch (IllegalArgumentException e) {
            return ILLEGAL;
        }
    }

    /** A new object that has read a text without a FAULT. */
    static CopyKeeper with(String text) {
        CopyKeeper x = new CopyKeeper();
        is("desk of <" + text + ">", 0, read(x, text));
        return x;
    }

    static int read(CopyKeeper x, String text) {
        return x.desk(Tape.feed(x::feed, text));
    }

    /** A text that a new object refuses. */
    static void fault(String text, int number, int place) {
        CopyKeeper x = new CopyKeeper();
        is("desk of <" + text + ">", number, read(x, text));
        is("fault() of <" + text + ">", place, x.fault());
    }

    /** All that questions tell, but STATUS and the tape: what a refused call may not change. */
    static String picture(CopyKeeper x) {
        StringBuilder all = new StringBuilder();
        for (int i = 0; i < 28; i++) if (i < 19 || i > 22) all.append(x.count(i)).append(' ');
        int libraries = x.count(0), works = x.count(1);
        for (int l = 0; l < libraries; l++) for (int i = 0; i < 13; i++) all.append(x.library(l, i)).append(' ');
        for (int w = 0; w < works; w++) for (int i = 0; i < 11; i++) all.append(x.work(w, i)).append(' ');
        for (int l = 0; l < libraries; l++) for (int w = 0; w < works; w++) {
            for (int i = 0; i < 7; i++) all.append(x.held(l, w, i)).append(' ');
        }
        return all.append(x.fits(0)).append(' ').append(x.fits(1)).append(' ').append(x.fits(2)).toString();
    }

    /** The row of LIBRARIES in the BEST of ORDERS, as digits. */
    static String best(CopyKeeper x) {
        StringBuilder row = new StringBuilder();
        for (int i = 0; i < x.count(0); i++) row.append(x.order(i));
        return row.toString();
    }

    /** THE PLAN, a digit for each LIBRARY and WORK. */
    static String plan(CopyKeeper x) {
        StringBuilder row = new StringBuilder();
        for (int l = 0; l < x.count(0); l++) {
            if (l > 0) row.append(' ');
            for (int w = 0; w < x.count(1); w++) row.append(x.held(l, w, 5));
        }
        return row.toString();
    }

    static void end() {
        System.out.println(tests + " sentences, " + asked + " answers: " + (wrong == 0 ? "all are as due" : wrong + " are not as due"));
        if (wrong != 0) System.exit(1);
    }
}
