import java.io.IOException;
import java.lang.reflect.Method;
import java.nio.file.Files;
import java.nio.file.Path;
import java.util.Arrays;
import java.util.BitSet;
import java.util.regex.Matcher;
import java.util.regex.Pattern;

/** What the tests of single sentences have in common: each sentence is quoted, and its calls follow it. */
class Check {
    static final int NONE = -1, UNKNOWN = -101, OUTSIDE = -102, STATE = -103, FULL = -104;
    static final int LOW = Integer.MIN_VALUE, HIGH = Integer.MAX_VALUE;

    // KEYS 10, 20, 30, 40, 50; VALUES 1, 3, 5, 7, 9; HEIGHTS 2, 1, 4, 2, 1.
    static final String FIVE = "t;1012,2031,3054,4072,5091";
    static final String EIGHT = "t;0001,1012,2023,3034,4041,5052,6063,9994";

    private static final Path DOCUMENT = Path.of("../shared/DOC.md");

    private static int right = 0;
    private static int wrong = 0;
    private static int sentences = 0;
    private static int answersOfSentence = 1;
    private static String sentence = "";
    private static String document = "";
    private static BitSet quoted = new BitSet();

    /** Makes an object, the same one each time. */
    interface Make {
        LaneRow make();
    }

    /** Where the document is not at hand, the calls are tested, but not whether each sentence is. */
    static void readDocument() throws IOException {
        if (Files.isReadable(DOCUMENT)) {
            document = Files.readString(DOCUMENT);
        } else {
            System.out.println("no " + DOCUMENT + ": what is quoted is not held against it");
        }
    }

    /** Begins the test of a sentence of a part of the document (its heading's beginning). */
    static void says(String part, String words) {
        if (answersOfSentence == 0) {
            fault("no call tests it");
        }
        answersOfSentence = 0;
        sentence = part + ", \"" + words + "\"";
        sentences++;
        if (document.isEmpty()) {
            return;
        }
        int[] bounds = boundsOf(part);
        int at = document.indexOf(words, bounds[0]);
        if (at < 0 || at + words.length() > bounds[1]) {
            fault("the document does not say so there");
        } else {
            quoted.set(at, at + words.length());
        }
    }

    static void says(int promise, String words) {
        says("Promise " + promise + ":", words);
    }

    private static int[] boundsOf(String part) {
        int begin = document.indexOf("## " + part);
        int end = document.indexOf("\n## ", begin + 1);
        return begin < 0 ? new int[] {0, 0} : new int[] {begin, end < 0 ? document.length() : end};
    }

    /** Each word of this form that a part of the document has must stand in a sentence that was tested. */
    static void isAllQuoted(String part, Pattern word) {
        int[] bounds = boundsOf(part);
        Matcher m = word.matcher(document).region(bounds[0], bounds[1]);
        while (m.find()) {
            if (quoted.nextClearBit(m.start()) < m.end()) {
                sentence = part;
                fault("no test quotes '" + m.group() + "' at " + (m.start() - bounds[0]));
            }
        }
    }

    static void end() {
        if (answersOfSentence == 0) {
            fault("no call tests it");
        }
        System.out.println(sentences + " sentences, " + right + " answers as due, " + wrong + " not");
        if (wrong != 0) {
            System.exit(1);
        }
    }

    private static void fault(String what) {
        wrong++;
        System.out.println(sentence + ": " + what);
    }

    static void due(String call, long got, long want) {
        answersOfSentence++;
        if (got == want) {
            right++;
        } else {
            fault(call + " answered " + got + ", due is " + want);
        }
    }

    /** Calls by name, so that a call and its arguments are told but once. */
    static void due(LaneRow x, long want, String name, int... args) {
        due(told(name, args), call(x, name, args), want);
    }

    static void dueSame(String what, String got, String want) {
        answersOfSentence++;
        if (got.equals(want)) {
            right++;
        } else {
            fault(what + " is " + got + ", due is " + want);
        }
    }

    /** The call is refused so, and leaves all as it is. */
    static void refused(Make make, int want, String name, int... args) {
        LaneRow x = make.make();
        due(x, want, name, args);
        dueSame("what there is behind " + told(name, args), reveal(x), reveal(make.make()));
    }

    static void taken(Make make, String name, int... args) {
        long got = call(make.make(), name, args);
        due(told(name, args) + " (" + got + ") is refused", got <= UNKNOWN && got >= FULL ? 1 : 0, 0);
    }

    /** One argument is taken from low to high, and refused beyond; what stands in its place is not used. */
    static void bound(Make make, int want, String name, int at, int low, int high, int... args) {
        int[] all = args.clone();
        for (int good : new int[] {low, high}) {
            all[at] = good;
            taken(make, name, all);
        }
        for (long bad : new long[] {low - 1L, high + 1L, LOW, HIGH}) {
            if (bad == (int) bad && (bad < low || bad > high)) {
                all[at] = (int) bad;
                refused(make, want, name, all);
            }
        }
    }

    static long call(LaneRow x, String name, int... args) {
        Object[] boxed = Arrays.stream(args).boxed().toArray();
        for (Method m : LaneRow.class.getMethods()) {
            if (m.getName().equals(name) && m.getParameterCount() == args.length) {
                try {
                    return ((Number) m.invoke(x, boxed)).longValue();
                } catch (ReflectiveOperationException e) {
                    throw new IllegalStateException(told(name, args), e);
                }
            }
        }
        throw new IllegalArgumentException(told(name, args));
    }

    static String told(String name, int... args) {
        return name + Arrays.toString(args).replace('[', '(').replace(']', ')');
    }

    /** Brings to light what the object holds, also what no single call tells; the object is spent then. */
    static String reveal(LaneRow x) {
        StringBuilder all = new StringBuilder();
        revealRow(x, all);
        all.append(" forget ").append(x.forget());
        revealRow(x, all);
        all.append(" restore ").append(x.restore());
        revealRow(x, all);
        all.append(" row ").append(x.row()).append(' ').append(x.digest());
        return all.toString();
    }

    private static void revealRow(LaneRow x, StringBuilder all) {
        all.append(' ').append(x.digest());
        for (int number = 0; number < x.count(0); number++) {
            all.append(' ').append(x.key(number, 7));
        }
        for (int turn = 0; turn < 7 && x.count(5) > 0; turn++) {
            all.append(" join ").append(x.join());
            if (x.count(5) > 0) {
                x.remove(x.key(x.count(0) - 1, 0));
            }
        }
        all.append(' ').append(x.digest());
    }

    static LaneRow page(LaneRow x, String text) {
        x.blank();
        for (int i = 0; i < text.length(); i++) {
            x.letter(text.charAt(i));
        }
        return x;
    }

    static LaneRow read(String text) {
        LaneRow x = page(new LaneRow(), text);
        if (x.row() < 0) {
            throw new IllegalArgumentException("no ROW: " + text);
        }
        return x;
    }

    static LaneRow asked(LaneRow x, int key, int times) {
        for (int i = 0; i < times; i++) {
            x.ask(key);
        }
        return x;
    }

    /** A ROW of 5 with a second ROW, HEAT, what is SEEN, an IMAGE that is not as it is now, and letters. */
    static LaneRow rich() {
        LaneRow x = read("t;0523,1012,2031,3054,4072,5091,9004");
        asked(x, 20, 3);
        asked(x, 50, 2);
        x.ask(33);
        x.see(1, 20, 4);
        x.split(50);
        x.image();
        x.put(25, 6, 3);
        x.ask(25);
        x.see(2, 25, 1);
        x.remove(5);
        x.best(18, 0);
        return page(x, "e;111,22");
    }

    static String tape(LaneRow x) {
        StringBuilder s = new StringBuilder();
        for (int place = 0; place <= 50 && x.tape(place) >= 0; place++) {
            s.append((char) x.tape(place));
        }
        return s.toString();
    }

    static void dueTape(LaneRow x, String want) {
        dueSame("the tape", tape(x), want);
    }

    /** What key() tells of all KEYS. */
    static void dueKeys(LaneRow x, int what, int... want) {
        int[] got = new int[x.count(0)];
        for (int number = 0; number < got.length; number++) {
            got[number] = x.key(number, what);
        }
        dueSame("key(.., " + what + ")", Arrays.toString(got), Arrays.toString(want));
    }
}
