import java.util.ArrayList;
import java.util.List;
import java.util.NoSuchElementException;

/**
 * A test of one sentence of the document: one run of calls on a new object. A refused call is made
 * between the others, and must leave no trace in what the object answers then.
 */
final class Story {
    static final Class<IndexOutOfBoundsException> INDEX = IndexOutOfBoundsException.class;
    static final Class<IllegalArgumentException> ARGUMENT = IllegalArgumentException.class;
    static final Class<UnsupportedOperationException> UNSUPPORTED = UnsupportedOperationException.class;
    static final Class<NoSuchElementException> MISSING = NoSuchElementException.class;
    static final Class<IllegalStateException> STATE = IllegalStateException.class;

    private static final String CHANGES_NOTHING = "A method that throws an exception changes nothing.";
    private static final String LISTED_FIRST = "If several exceptions apply, the one that is listed first is thrown.";

    private final String label;
    private final Calls calls = new Calls();
    private final List<String> done = new ArrayList<>();

    private Story(String label) {
        this.label = label;
    }

    static Story promise(int number, String sentence) {
        DocumentText.name("Promise " + number, sentence);
        return new Story("Promise " + number + ", '" + sentence + "'");
    }

    /** A sentence under Terms, and the promises that it is tested for. */
    static Story term(String term, String promises, String sentence) {
        DocumentText.name(term, sentence);
        return new Story(term + ", for promise " + promises + ", '" + sentence + "'");
    }

    /** For calls to which more than one exception applies. */
    static Story listedFirst(int promise) {
        return term("Exceptions", Integer.toString(promise), LISTED_FIRST);
    }

    static Story changesNothing(String promises) {
        return term("Exceptions", promises, CHANGES_NOTHING);
    }

    /** For "An object is used for at most 512 calls after it has been made". */
    static Story use(String sentence) {
        DocumentText.name("What it is", sentence);
        return new Story("'" + sentence + "'");
    }

    /** Calls that lead to the boundary: they must answer, whatever it is. */
    Story after(String... texts) {
        for (String text : texts) {
            Object got = make(text);
            Check.holds(label + ": " + text + " answered " + got, !isRefusal(got));
        }
        return this;
    }

    Story answers(String text, Object due) {
        Check.same(label + ": " + text, make(text), due);
        return this;
    }

    /** For calls that must answer alike, one after the other. */
    Story answersEach(Object due, String... texts) {
        for (String text : texts) {
            answers(text, due);
        }
        return this;
    }

    /** Each of the calls must be refused so, and then nothing has changed. */
    Story refuses(Class<? extends RuntimeException> due, String... texts) {
        for (String text : texts) {
            Check.same(label + ": " + text, calls.make(text), due);
            Check.same(label + ": changed by " + text, Twins.difference(done, text), "");
        }
        return this;
    }

    /** Of the 512 calls that are promised, so many must be left. */
    Story left(int due) {
        Check.same(label + ": calls left", calls.left(), due);
        return this;
    }

    private Object make(String text) {
        Object got = calls.make(text);
        if (!isRefusal(got)) {
            done.add(text);
        }
        return got;
    }

    private static boolean isRefusal(Object got) {
        return got instanceof Class || got instanceof String;
    }

    // ---- what many runs begin with

    /** The call, once for each number from the first to the last one, which stands where # stands. */
    static String[] repeated(String text, int first, int last) {
        String[] all = new String[Math.max(last - first + 1, 0)];
        for (int i = 0; i < all.length; i++) {
            all[i] = text.replace("#", Integer.toString(first + i));
        }
        return all;
    }

    /** The values 0 (an empty vector), 1 (an open one that was made lasting), and 2: a vector 1, 2, 3 .. of this size. */
    static String[] grown(int size) {
        return joined(joined(new String[] {"vector()", "open(0)"}, repeated("appendTo(1, #)", 1, size)), "makeLasting(1)");
    }

    static String[] joined(String[] first, String... more) {
        String[] all = java.util.Arrays.copyOf(first, first.length + more.length);
        System.arraycopy(more, 0, all, first.length, more.length);
        return all;
    }
}
