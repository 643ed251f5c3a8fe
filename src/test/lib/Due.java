/** What the tests of the edges share: the sentence that is under test, and what its calls are to answer. */
final class Due {
    static final int NONE = -1000000, BAD = -1000001, STATE = -1000002, FULL = -1000003;
    static final int NULL = -1000011, PLACE = -1000012, KIND = -1000013, SIZE = -1000014, STORE = -1000015;
    static final int LOW = Integer.MIN_VALUE, HIGH = Integer.MAX_VALUE;

    private static final boolean[] named = new boolean[40];
    private static int wrong = 0;
    private static int sentences = 0;
    private static String under = "";

    private Due() {
    }

    /** The sentence of the document, in its own words, that the checks behind this one would break with. */
    static void promise(int number, String sentence) {
        named[number] = true;
        sentences++;
        under = "promise " + number + " (" + sentence + ")";
    }

    static void is(String what, int got, int want) {
        if (got != want) {
            wrong++;
            System.out.println(under + ": " + what + " answered " + got + ", due is " + want);
        }
    }

    /** Answers in a row, each to the same call with the next argument, as a caller gathers them. */
    static void are(String what, int[] got, int... want) {
        is(what + ": how many", got.length, want.length);
        for (int i = 0; i < got.length && i < want.length; i++) {
            is(what + ", number " + i, got[i], want[i]);
        }
    }

    static void tell(CoalGrate x, String text) {
        for (int i = 0; i < text.length(); i++) {
            is("byte " + i + " of " + text, x.feed(text.charAt(i)), x.count(8));
        }
    }

    static CoalGrate of(String text) {
        CoalGrate x = new CoalGrate();
        read(x, text);
        return x;
    }

    static void read(CoalGrate x, String text) {
        tell(x, text);
        int things = x.yard();
        is("the text " + text + " is read", things, Math.max(0, things));
    }

    /** Many minutes at once, which a call takes only up to 24 of. */
    static void pass(CoalGrate x, int minutes) {
        for (int left = minutes; left > 0; left -= 24) {
            is("minutes", x.minutes(Math.min(24, left)), x.count(4));
        }
    }

    /** A test says which promises it is for, so that one that loses its last sentence is seen. */
    static void named(int first, int last) {
        for (int number = first; number <= last; number++) {
            if (!named[number]) {
                wrong++;
                System.out.println("promise " + number + " has no sentence here");
            }
        }
    }

    static void end(int first, int last) {
        named(first, last);
        System.out.println(sentences + " sentences, " + wrong + " wrong answers");
        if (wrong != 0) {
            System.exit(1);
        }
    }
}
