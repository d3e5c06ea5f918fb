import java.io.IOException;
import java.math.BigInteger;
import java.util.ArrayList;
import java.util.List;
import java.util.regex.Pattern;

/** Each sentence of the promises that names a bound, NONE or a refusal, with a test of its own. */
public final class EdgeTest extends Check {
    private static final String[] LAWS = {"t", "h", "s", "e", "d"};
    private static final Make NO_ROW = LaneRow::new;
    private static final Make RICH = Check::rich;

    public static void main(String[] args) throws IOException {
        readDocument();
        newObject();
        letter();
        blank();
        fault();
        row();
        rowGone();
        tape();
        as();
        key();
        keyLinks();
        lane();
        find();
        nth();
        sum();
        finger();
        ask();
        put();
        putRefused();
        remove();
        split();
        join();
        joinRefused();
        cost();
        best();
        bestRefused();
        change();
        see();
        forget();
        rounds();
        image();
        restore();
        count();
        digest();
        // Behind a small letter a bracket holds the arguments of a call.
        Pattern bounds = Pattern.compile(
            "(?<![a-z])\\([^)]+\\)|NONE|UNKNOWN|OUTSIDE|STATE|FULL|wrapping|at most|at least");
        for (int promise = 1; promise <= 28; promise++) {
            isAllQuoted("Promise " + promise + ":", bounds);
        }
        end();
    }

    private static LaneRow written(String text) {
        return page(new LaneRow(), text);
    }

    private static Make of(String text) {
        return () -> read(text);
    }

    private static void newObject() {
        says(1, "No ROW.");
        LaneRow x = new LaneRow();
        for (int what = 0; what <= 12; what++) {
            due(x, 0, "count", what);
        }
        due(x, 0, "forget");
        due(x, 0, "blank");
        due(x, 0, "fault");
        refused(NO_ROW, STATE, "row");
        refused(NO_ROW, STATE, "tape", 0);
        refused(NO_ROW, STATE, "as", 0);
        refused(NO_ROW, UNKNOWN, "key", 0, 0);
        refused(NO_ROW, STATE, "find", 0, 0);
        refused(NO_ROW, UNKNOWN, "nth", 0, 0);
        refused(NO_ROW, STATE, "sum", 0, 99);
        refused(NO_ROW, UNKNOWN, "finger", 0, 0, 0);
        refused(NO_ROW, STATE, "ask", 0);
        refused(NO_ROW, STATE, "put", 0, 0, 1);
        refused(NO_ROW, STATE, "remove", 0);
        refused(NO_ROW, STATE, "split", 0);
        refused(NO_ROW, STATE, "join");
        refused(NO_ROW, STATE, "cost");
        refused(NO_ROW, STATE, "best", 1, 0);
        refused(NO_ROW, STATE, "change", 0);
        refused(NO_ROW, UNKNOWN, "see", 0, 0, 0);
        refused(NO_ROW, STATE, "rounds", 1, 0, 0);
        refused(NO_ROW, STATE, "image");
        refused(NO_ROW, STATE, "restore");
    }

    private static void letter() {
        says(2, "A letter comes behind THE PAGE, by its code: how many THE PAGE has.");
        LaneRow x = new LaneRow();
        String text = "h;105,206";
        for (int i = 0; i < text.length(); i++) {
            due(x, i + 1, "letter", text.charAt(i));
        }
        due(x, 2, "row");
        dueTape(x, text);
        due(x, 1, "letter", 65);

        says(2, "OUTSIDE: code (1 to 126)");
        bound(NO_ROW, OUTSIDE, "letter", 0, 1, 126, 0);
        bound(RICH, OUTSIDE, "letter", 0, 1, 126, 0);

        says(2, "FULL: above 44");
        Make full = () -> written("A".repeat(44));
        due(written("A".repeat(43)), 44, "letter", 65);
        refused(full, FULL, "letter", 65);
        refused(full, FULL, "letter", 1);
        LaneRow again = full.make();
        due(again, 44, "blank");
        due(again, 1, "letter", 65);
    }

    private static void blank() {
        says(3, "THE PAGE is empty: how many letters it had.");
        due(new LaneRow(), 0, "blank");
        due(written("A"), 1, "blank");
        LaneRow x = written("A".repeat(44));
        due(x, 44, "blank");
        due(x, 0, "blank");
        due(x, 0, "count", 10);
        LaneRow y = read(FIVE);
        y.letter(65);
        due(y, 1, "blank");
        dueTape(y, FIVE);
    }

    /** Whether a ROW that begins as this text of 8 KEYS does can have that letter at a place. */
    private static boolean fits(String text, int place, char code) {
        int signs = text.charAt(0) == 't' ? 5 : 4;
        int sign = (place - 2) % signs;
        if (place < 2) {
            return place == 0 ? "thsed".indexOf(code) >= 0 : code == ';';
        }
        if (sign == signs - 1) {
            return code == ',' && place < text.length();
        }
        if (sign == 1 && place > 5) {
            char tens = text.charAt(place - 1);
            char tensBefore = text.charAt(place - 1 - signs);
            char onesBefore = text.charAt(place - signs);
            return code >= '0' && code <= '9' && (tens > tensBefore || (tens == tensBefore && code > onesBefore));
        }
        return sign == 3 ? code >= '1' && code <= '4' : code >= '0' && code <= '9';
    }

    private static void fault() {
        says(4, "The place (from 0) of the first letter of THE PAGE that no ROW has there, behind those ahead of it");
        String[] whole = {"t;0001,0392,1243,1984,3451,3672,7803,9994", "h;000,039,124,198,345,367,780,999"};
        for (String text : whole) {
            for (int place = 0; place <= text.length(); place++) {
                for (char code = 1; code <= 126; code++) {
                    String prefix = text.substring(0, place) + code;
                    due("fault() of " + prefix, written(prefix).fault(), fits(text, place, code) ? place + 1 : place);
                }
            }
        }
        due(written("h;1x1,;"), 3, "fault");
        due(written("xx"), 0, "fault");
        due(written("hx;x"), 1, "fault");

        says(4, "how many letters it has, if there is none");
        for (String law : LAWS) {
            String text = law.equals("t") ? EIGHT : law + ";000,110,220,330,440,550,660,990";
            for (int letters = 0; letters <= text.length(); letters++) {
                due(written(text.substring(0, letters)), letters, "fault");
            }
        }
        due(read(FIVE), 0, "fault");
    }

    private static void row() {
        says(5, "THE PAGE is read as THE ROW");
        for (String law : LAWS) {
            String text = law.equals("t") ? EIGHT : law + ";000,110,220,330,440,550,660,999";
            dueTape(read(text), text);
        }

        says(5, "how many KEYS");
        for (int keys = 2; keys <= 8; keys++) {
            due(written(EIGHT.substring(0, 5 * keys + 1)), keys, "row");
            due(written("d;000,110,220,330,440,550,660,999".substring(0, 4 * keys + 1)), keys, "row");
        }

        says(5, "THE PAGE is empty then");
        LaneRow x = written(FIVE);
        due(x, 5, "row");
        due(x, 0, "count", 10);
        due(x, STATE, "row");
        due(x, 0, "blank");

        says(5, "STATE: it is none");
        for (String text : new String[] {EIGHT, "s;000,110,220,330,440,550,660,999"}) {
            int signs = text.charAt(0) == 't' ? 5 : 4;
            for (int letters = 0; letters <= text.length(); letters++) {
                String some = text.substring(0, letters);
                boolean is = letters % signs == 1 && letters > 2 * signs;
                if (!is) {
                    refused(() -> page(read(FIVE), some), STATE, "row");
                    refused(() -> written(some), STATE, "row");
                }
            }
            refused(() -> page(rich(), text + ","), STATE, "row");
            refused(() -> page(rich(), text + ",9"), STATE, "row");
        }
        refused(() -> page(rich(), "s;000,110,220,330,440,550,660,970,990"), STATE, "row");
        refused(() -> page(rich(), "x;101,201"), STATE, "row");
        refused(() -> page(rich(), "h;101,101"), STATE, "row");
        refused(() -> page(rich(), "h;101,201 "), STATE, "row");
    }

    private static void rowGone() {
        says(5, "(another one is gone, with all that was)");
        LaneRow x = page(rich(), "e;111,222");
        due(x, 2, "row");
        dueTape(x, "e;111,222");
        dueKeys(x, 3, 0, 0);
        dueKeys(x, 6, 15, 15);
        int[] counts = {2, 2, 3, 3, 0, 0, 0, 0, 0, 0, 0, 2, 1};
        for (int what = 0; what <= 12; what++) {
            due(x, counts[what], "count", what);
        }
        due(x, STATE, "join");
        due(x, STATE, "restore");
        LaneRow same = page(asked(read(FIVE), 20, 2), FIVE);
        due(same, 5, "row");
        dueKeys(same, 3, 0, 0, 0, 0, 0);
    }

    private static void tape() {
        says(6, "The so-manieth letter (from 0), by its code, of the text that THE ROW is now");
        LaneRow x = read(FIVE);
        for (int place = 0; place < FIVE.length(); place++) {
            due(x, FIVE.charAt(place), "tape", place);
        }
        x.put(0, 9, 4);
        x.put(99, 0, 1);
        x.remove(30);
        dueTape(x, "t;0094,1012,2031,4072,5091,9901");

        says(6, "NONE: it has not so many");
        due(read(EIGHT), '4', "tape", 40);
        due(read(EIGHT), NONE, "tape", 41);
        due(read("h;000,110,220,330,440,550,660,990"), '0', "tape", 32);
        due(read("h;000,110,220,330,440,550,660,990"), NONE, "tape", 33);
        due(read("h;001,992"), '2', "tape", 8);
        due(read("h;001,992"), NONE, "tape", 9);
        due(read("t;0011,9924"), '4', "tape", 10);
        due(read("t;0011,9924"), NONE, "tape", 11);
        due(read("h;001,992"), NONE, "tape", 50);

        says(6, "OUTSIDE: place (0 to 50)");
        bound(RICH, OUTSIDE, "tape", 0, 0, 50, 0);
        refused(NO_ROW, OUTSIDE, "tape", 51);
        refused(NO_ROW, OUTSIDE, "tape", -1);

        says(6, "STATE: no ROW");
        refused(NO_ROW, STATE, "tape", 0);
        refused(NO_ROW, STATE, "tape", 50);
        refused(() -> written(FIVE), STATE, "tape", 0);
        due(read("h;001,992"), 'h', "tape", 0);
    }

    private static void as() {
        says(7, "THE LAW taken as a KIND: 1");
        String[] rows = {"t;1011,2011", "h;101,201", "s;101,201", "e;101,201", "d;101,201"};
        for (String row : rows) {
            due(read(row), 1, "as", 0);
        }
        for (int kind = 1; kind <= 4; kind++) {
            due(read(rows[kind]), 1, "as", kind);
        }
        due(read(rows[4]), 1, "as", 1);

        says(7, "NONE: it is none such (the cast fails)");
        int[][] not = {{0, 1}, {0, 2}, {0, 3}, {0, 4}, {1, 2}, {1, 3}, {1, 4}, {2, 1}, {2, 3}, {2, 4}, {3, 1}, {3, 2},
            {3, 4}, {4, 2}, {4, 3}};
        for (int[] pair : not) {
            due(read(rows[pair[0]]), NONE, "as", pair[1]);
        }

        says(7, "OUTSIDE: kind (0 to 4)");
        bound(RICH, OUTSIDE, "as", 0, 0, 4, 0);
        refused(NO_ROW, OUTSIDE, "as", 5);
        refused(NO_ROW, OUTSIDE, "as", -1);

        says(7, "STATE: no ROW");
        for (int kind = 0; kind <= 4; kind++) {
            refused(NO_ROW, STATE, "as", kind);
        }
    }

    private static void key() {
        says(8, "what = 0 the KEY, 1 VALUE, 2 HEIGHT, 3 HEAT, 4 LOOKS FOR it, 5 in which LANE it is found, "
            + "6 HEIGHTS, as bits");
        LaneRow x = asked(read(FIVE), 40, 2);
        x.see(1, 20, 4);
        dueKeys(x, 0, 10, 20, 30, 40, 50);
        dueKeys(x, 1, 1, 3, 5, 7, 9);
        dueKeys(x, 2, 2, 1, 4, 2, 1);
        dueKeys(x, 3, 0, 0, 0, 2, 0);
        dueKeys(x, 4, 3, 5, 1, 2, 3);
        dueKeys(x, 5, 1, 0, 3, 1, 0);
        dueKeys(x, 6, 15, 2, 15, 15, 15);

        says(8, "7 TRY (NONE)");
        due(read(FIVE), 20, "key", 1, 7);
        x.see(1, 20, 5);
        due(x, NONE, "key", 1, 7);

        says(8, "UNKNOWN: number (0 to one less than KEYS)");
        for (int what : new int[] {0, 1, 2, 3, 4, 5, 6, 7, 10, 13, 20, 23, 24}) {
            refused(RICH, UNKNOWN, "key", 5, what);
            refused(RICH, UNKNOWN, "key", -1, what);
        }
        bound(of("t;1011,2011"), UNKNOWN, "key", 0, 0, 1, 0, 0);
        bound(of(EIGHT), UNKNOWN, "key", 0, 0, 7, 0, 0);
        bound(RICH, UNKNOWN, "key", 0, 0, 4, 0, 0);
        refused(NO_ROW, UNKNOWN, "key", 0, 0);

        says(8, "OUTSIDE.");
        for (int[] run : new int[][] {{0, 7}, {10, 13}, {20, 23}}) {
            for (int what = run[0]; what <= run[1]; what++) {
                taken(RICH, "key", 0, what);
            }
            refused(RICH, OUTSIDE, "key", 0, run[0] - 1);
            refused(RICH, OUTSIDE, "key", 0, run[1] + 1);
        }
        refused(RICH, OUTSIDE, "key", 4, LOW);
        refused(RICH, OUTSIDE, "key", 4, HIGH);
    }

    private static void keyLinks() {
        says(8, "10 to 13 WIDTH of its LINK in LANE 0 to 3, 20 to 23 WEIGHT");
        LaneRow x = read("t;1014,2021,3032,4043,5054");
        dueKeys(x, 10, 1, 1, 1, 1, NONE);
        dueKeys(x, 11, 2, NONE, 1, 1, NONE);
        dueKeys(x, 12, 3, NONE, NONE, 1, NONE);
        dueKeys(x, 13, 4, NONE, NONE, NONE, NONE);
        dueKeys(x, 20, 2, 3, 4, 5, NONE);
        dueKeys(x, 21, 5, NONE, 4, 5, NONE);
        dueKeys(x, 22, 9, NONE, NONE, 5, NONE);
        dueKeys(x, 23, 14, NONE, NONE, NONE, NONE);

        says(8, "(NONE: it is not so high, or there is no next one)");
        LaneRow low = read("t;1011,2014,3014");
        due(low, NONE, "key", 0, 11);
        due(low, NONE, "key", 0, 21);
        due(low, 1, "key", 1, 13);
        due(low, 1, "key", 1, 23);
        for (int lane = 0; lane <= 3; lane++) {
            due(low, NONE, "key", 2, 10 + lane);
            due(low, NONE, "key", 2, 20 + lane);
        }
        due(read("t;1014,2001"), 0, "key", 0, 20);
        due(read("t;1014,2001"), NONE, "key", 0, 21);
    }

    private static void lane() {
        says(9, "what = 0 how many KEYS it has");
        LaneRow x = read(FIVE);
        int[] keys = {5, 3, 1, 1};
        for (int lane = 0; lane <= 3; lane++) {
            due(x, keys[lane], "lane", lane, 0);
        }
        due(read("t;1012,2031"), 0, "lane", 2, 0);

        says(9, "1 the WIDTH of the first LINK, 2 its WEIGHT (NONE for both: it has none)");
        int[] widths = {1, 1, 3, 3};
        int[] weights = {1, 1, 9, 9};
        for (int lane = 0; lane <= 3; lane++) {
            due(x, widths[lane], "lane", lane, 1);
            due(x, weights[lane], "lane", lane, 2);
        }
        LaneRow low = read("t;1001,2032");
        due(low, 0, "lane", 0, 2);
        due(low, 2, "lane", 1, 1);
        due(low, 3, "lane", 1, 2);
        for (int lane = 2; lane <= 3; lane++) {
            due(low, NONE, "lane", lane, 1);
            due(low, NONE, "lane", lane, 2);
        }

        says(9, "3 the greatest WIDTH (NONE)");
        int[] greatest = {1, 2, 3, 3};
        for (int lane = 0; lane <= 3; lane++) {
            due(x, greatest[lane], "lane", lane, 3);
        }
        due(read("t;1014,2011,3011,4014,5011"), 3, "lane", 3, 3);
        due(read("t;1011,2014,3014"), 2, "lane", 3, 3);
        due(low, 2, "lane", 1, 3);
        due(low, NONE, "lane", 2, 3);

        says(9, "UNKNOWN: lane (0 to 3; also without a ROW)");
        for (int what = 0; what <= 3; what++) {
            bound(RICH, UNKNOWN, "lane", 0, 0, 3, 0, what);
        }
        refused(RICH, UNKNOWN, "lane", 4, 4);
        refused(RICH, UNKNOWN, "lane", -1, -1);
        for (int lane = -1; lane <= 4; lane++) {
            refused(NO_ROW, UNKNOWN, "lane", lane, 0);
            refused(NO_ROW, UNKNOWN, "lane", lane, 4);
        }

        says(9, "OUTSIDE.");
        for (int lane = 0; lane <= 3; lane++) {
            bound(RICH, OUTSIDE, "lane", 1, 0, 3, lane, 0);
        }
    }

    private static void find() {
        says(10, "what = 0 its number (NONE: it is not found)");
        LaneRow x = read("t;0011,3032,9954");
        due(x, 0, "find", 0, 0);
        due(x, 1, "find", 30, 0);
        due(x, 2, "find", 99, 0);
        due(x, NONE, "find", 1, 0);
        due(x, NONE, "find", 29, 0);
        due(x, NONE, "find", 98, 0);
        due(read(FIVE), NONE, "find", 0, 0);
        due(read(FIVE), NONE, "find", 99, 0);

        says(10, "1 LOOKS");
        due(x, 4, "find", 0, 1);
        due(x, 1, "find", 99, 1);
        due(x, 3, "find", 30, 1);
        due(x, 5, "find", 98, 1);

        says(10, "2 the LANE where it is found (NONE)");
        due(x, 0, "find", 0, 2);
        due(x, 1, "find", 30, 2);
        due(x, 3, "find", 99, 2);
        due(x, NONE, "find", 98, 2);

        says(10, "3 VALUE (NONE)");
        due(x, 1, "find", 0, 3);
        due(x, 3, "find", 30, 3);
        due(x, 5, "find", 99, 3);
        due(x, NONE, "find", 31, 3);
        due(read("t;1001,2091"), 0, "find", 10, 3);

        says(10, "OUTSIDE: key (0 to 99), what");
        for (int what = 0; what <= 3; what++) {
            bound(RICH, OUTSIDE, "find", 0, 0, 99, 0, what);
        }
        bound(RICH, OUTSIDE, "find", 1, 0, 3, 20, 0);
        refused(NO_ROW, OUTSIDE, "find", 100, 0);
        refused(NO_ROW, OUTSIDE, "find", 0, 4);

        says(10, "STATE: no ROW");
        refused(NO_ROW, STATE, "find", 0, 0);
        refused(NO_ROW, STATE, "find", 99, 3);
    }

    private static void nth() {
        says(11, "what = 0 the KEY, 1 LOOKS, 2 the LANE");
        LaneRow x = read(EIGHT);
        // Of HEIGHTS 1, 2, 3, 4, 1, 2, 3, 4 in LANES 3 down to 0.
        int[][] want = {{0, 4, 0}, {10, 3, 1}, {20, 2, 2}, {30, 1, 3}, {40, 5, 0}, {50, 4, 1}, {60, 3, 2}, {99, 2, 3}};
        for (int number = 0; number < 8; number++) {
            for (int what = 0; what <= 2; what++) {
                due(x, want[number][what], "nth", number, what);
            }
        }

        says(11, "UNKNOWN: number");
        bound(of("t;1011,2011"), UNKNOWN, "nth", 0, 0, 1, 0, 0);
        bound(of(EIGHT), UNKNOWN, "nth", 0, 0, 7, 0, 1);
        bound(RICH, UNKNOWN, "nth", 0, 0, 4, 0, 2);
        refused(RICH, UNKNOWN, "nth", 5, 3);
        refused(NO_ROW, UNKNOWN, "nth", 0, 0);
        refused(NO_ROW, UNKNOWN, "nth", 0, 3);

        says(11, "OUTSIDE.");
        bound(RICH, OUTSIDE, "nth", 1, 0, 2, 4, 0);
        bound(RICH, OUTSIDE, "nth", 1, 0, 2, 0, 0);
    }

    private static void sum() {
        says(12, "All VALUES of KEYS from one to another one (both counted, there or not)");
        LaneRow x = read("t;0011,2031,3054,4072,9991");
        int[][] want = {{0, 99, 25}, {1, 98, 15}, {0, 0, 1}, {1, 1, 0}, {99, 99, 9}, {98, 98, 0}, {20, 40, 15},
            {21, 40, 12}, {20, 39, 8}, {21, 39, 5}, {30, 30, 5}, {31, 39, 0}, {19, 41, 15}};
        for (int[] line : want) {
            due(x, line[2], "sum", line[0], line[1]);
        }
        x.split(40);
        due(x, 9, "sum", 0, 99);

        says(12, "OUTSIDE: from, to (0 to 99, not from above to)");
        bound(RICH, OUTSIDE, "sum", 0, 0, 99, 0, 99);
        bound(RICH, OUTSIDE, "sum", 1, 0, 99, 0, 0);
        bound(RICH, OUTSIDE, "sum", 0, 0, 40, 0, 40);
        bound(RICH, OUTSIDE, "sum", 1, 40, 99, 40, 0);
        refused(RICH, OUTSIDE, "sum", 100, 100);
        refused(RICH, OUTSIDE, "sum", -1, -1);
        refused(NO_ROW, OUTSIDE, "sum", 1, 0);

        says(12, "STATE: no ROW");
        refused(NO_ROW, STATE, "sum", 0, 0);
        refused(NO_ROW, STATE, "sum", 0, 99);
    }

    private static void finger() {
        says(13, "Who looks FOR a KEY from a FINGER (its number): what = 0 its number (NONE), 1 LOOKS");
        LaneRow x = read(FIVE);
        int[][] want = {{0, 10, 0, 0}, {0, 11, NONE, 2}, {0, 20, 1, 2}, {0, 30, 2, 1}, {0, 40, 3, 2}, {0, 50, 4, 3},
            {0, 99, NONE, 3}, {1, 20, 1, 0}, {1, 30, 2, 1}, {1, 35, NONE, 3}, {1, 50, 4, 3}, {2, 30, 2, 0},
            {2, 31, NONE, 2}, {2, 50, 4, 2}, {3, 40, 3, 0}, {3, 45, NONE, 1}, {4, 50, 4, 0}, {4, 51, NONE, 0},
            {4, 99, NONE, 0}};
        for (int[] line : want) {
            due(x, line[2], "finger", line[0], line[1], 0);
            due(x, line[3], "finger", line[0], line[1], 1);
        }

        says(13, "UNKNOWN: finger");
        bound(of("t;1011,2011"), UNKNOWN, "finger", 0, 0, 1, 0, 99, 0);
        bound(of(EIGHT), UNKNOWN, "finger", 0, 0, 7, 0, 99, 1);
        bound(RICH, UNKNOWN, "finger", 0, 0, 4, 0, 99, 0);
        refused(RICH, UNKNOWN, "finger", 5, 100, 0);
        refused(RICH, UNKNOWN, "finger", 5, 99, 2);
        refused(NO_ROW, UNKNOWN, "finger", 0, 0, 0);

        says(13, "OUTSIDE: key (not less than the FINGER's, 99 at most), what");
        bound(of(FIVE), OUTSIDE, "finger", 1, 10, 99, 0, 0, 0);
        bound(of(FIVE), OUTSIDE, "finger", 1, 50, 99, 4, 0, 1);
        bound(of(EIGHT), OUTSIDE, "finger", 1, 0, 99, 0, 0, 0);
        bound(of(EIGHT), OUTSIDE, "finger", 1, 99, 99, 7, 0, 0);
        bound(RICH, OUTSIDE, "finger", 2, 0, 1, 0, 99, 0);
        bound(RICH, OUTSIDE, "finger", 2, 0, 1, 4, 40, 0);
    }

    private static void ask() {
        says(14, "One ASKS for a KEY: VALUE");
        LaneRow x = read("t;0001,3052,9994");
        due(x, 0, "ask", 0);
        due(x, 5, "ask", 30);
        due(x, 9, "ask", 99);
        dueKeys(x, 3, 1, 1, 1);
        due(x, 3, "count", 6);
        due(x, 8, "count", 7);

        says(14, "NONE: it is not found");
        due(x, NONE, "ask", 1);
        due(x, NONE, "ask", 98);
        dueKeys(x, 3, 1, 1, 1);
        due(x, 5, "count", 6);
        due(x, 18, "count", 7);

        says(14, "OUTSIDE: key (0 to 99)");
        bound(RICH, OUTSIDE, "ask", 0, 0, 99, 0);
        refused(NO_ROW, OUTSIDE, "ask", 100);
        refused(NO_ROW, OUTSIDE, "ask", -1);

        says(14, "STATE: no ROW");
        refused(NO_ROW, STATE, "ask", 0);
        refused(NO_ROW, STATE, "ask", 99);

        says(14, "FULL: its HEAT is 99");
        Make hot = () -> asked(read(FIVE), 20, 99);
        due(asked(read(FIVE), 20, 98), 3, "ask", 20);
        refused(hot, FULL, "ask", 20);
        refused(() -> asked(read(EIGHT), 0, 99), FULL, "ask", 0);
        refused(() -> asked(read(EIGHT), 99, 99), FULL, "ask", 99);
        LaneRow other = hot.make();
        due(other, 5, "ask", 30);
        due(other, NONE, "ask", 21);
        dueKeys(other, 3, 0, 99, 1, 0, 0);
        LaneRow none = asked(read(FIVE), 21, 99);
        due(none, NONE, "ask", 21);
        due(none, 100, "count", 6);
    }

    private static void put() {
        says(15, "A KEY comes to THE ROW, or is there, and gets another VALUE (and, by a plain LAW, HEIGHT): "
            + "its number.");
        LaneRow x = read(FIVE);
        due(x, 0, "put", 0, 0, 1);
        due(x, 6, "put", 99, 9, 4);
        due(x, 3, "put", 29, 2, 3);
        dueTape(x, "t;0001,1012,2031,2923,3054,4072,5091,9994");
        due(x, 0, "put", 0, 9, 4);
        due(x, 7, "put", 99, 0, 1);
        due(x, 3, "put", 29, 2, 3);
        dueTape(x, "t;0094,1012,2031,2923,3054,4072,5091,9901");
        due(x, 6, "count", 8);
        LaneRow h = read("h;001,071");
        due(h, 1, "put", 7, 5, 1);
        due(h, 1, "put", 3, 4, 1);
        dueKeys(h, 1, 1, 4, 5);
        dueKeys(h, 2, 1, 3, 4);

        says(15, "Its HEAT is 0, if it is new.");
        LaneRow warm = asked(asked(read(FIVE), 20, 3), 50, 2);
        warm.put(15, 0, 1);
        dueKeys(warm, 3, 0, 0, 3, 0, 0, 2);
        warm.put(20, 9, 4);
        dueKeys(warm, 3, 0, 0, 3, 0, 0, 2);
        warm.remove(20);
        warm.put(20, 9, 4);
        dueKeys(warm, 3, 0, 0, 0, 0, 0, 2);
    }

    private static void putRefused() {
        says(15, "OUTSIDE: key, value, height (1 to 4; by other LAWS it does not matter further)");
        Make[] makes = {RICH, of("h;101,201"), of("s;101,201"), of("e;101,201"), of("d;101,201")};
        for (Make make : makes) {
            bound(make, OUTSIDE, "put", 0, 0, 99, 0, 1, 1);
            bound(make, OUTSIDE, "put", 1, 0, 9, 20, 0, 1);
            bound(make, OUTSIDE, "put", 1, 0, 9, 21, 0, 4);
            bound(make, OUTSIDE, "put", 2, 1, 4, 20, 1, 0);
            bound(make, OUTSIDE, "put", 2, 1, 4, 21, 1, 0);
        }
        for (int kind = 1; kind < makes.length; kind++) {
            String[] all = new String[4];
            for (int height = 1; height <= 4; height++) {
                LaneRow x = makes[kind].make();
                x.put(15, 1, height);
                x.put(20, 2, height);
                all[height - 1] = reveal(x);
                dueSame("the ROW by HEIGHT " + height, all[height - 1], all[0]);
            }
        }
        refused(NO_ROW, OUTSIDE, "put", 100, 0, 1);
        refused(NO_ROW, OUTSIDE, "put", 0, 10, 1);
        refused(NO_ROW, OUTSIDE, "put", 0, 0, 5);
        refused(of(EIGHT), OUTSIDE, "put", 1, 10, 1);
        refused(of(EIGHT), OUTSIDE, "put", 1, 0, 0);

        says(15, "STATE: no ROW");
        refused(NO_ROW, STATE, "put", 0, 0, 1);
        refused(NO_ROW, STATE, "put", 99, 9, 4);

        says(15, "FULL: there are 8, and it is new");
        due(read(EIGHT.substring(0, 36)), 7, "put", 99, 1, 1);
        refused(of(EIGHT), FULL, "put", 1, 0, 1);
        refused(of(EIGHT), FULL, "put", 98, 0, 1);
        LaneRow there = read(EIGHT);
        for (int number = 0; number < 8; number++) {
            due(there, number, "put", there.key(number, 0), 1, 1);
        }
        LaneRow split = read(EIGHT);
        split.split(60);
        due(split, 6, "put", 55, 0, 1);
        due(split, 7, "put", 56, 0, 1);
        due(split, FULL, "put", 57, 0, 1);
    }

    private static void remove() {
        says(16, "A KEY is taken out: its VALUE.");
        LaneRow x = asked(read("t;0001,2031,3054,4072,9991"), 30, 2);
        due(x, 0, "remove", 0);
        due(x, 9, "remove", 99);
        due(x, 3, "remove", 20);
        dueTape(x, "t;3054,4072");
        dueKeys(x, 3, 2, 0);
        due(x, 3, "count", 8);

        says(16, "OUTSIDE: key (0 to 99)");
        bound(() -> read(EIGHT), OUTSIDE, "remove", 0, 0, 99, 0);
        refused(NO_ROW, OUTSIDE, "remove", 100);
        refused(of("t;1011,2011"), OUTSIDE, "remove", -1);

        says(16, "STATE: no ROW");
        refused(NO_ROW, STATE, "remove", 0);

        says(16, "it is not there");
        refused(RICH, STATE, "remove", 0);
        refused(RICH, STATE, "remove", 99);
        refused(RICH, STATE, "remove", 21);
        refused(RICH, STATE, "remove", 50);
        refused(RICH, STATE, "remove", 5);
        LaneRow gone = asked(read(FIVE), 50, 1);
        due(gone, 9, "remove", 50);
        due(gone, STATE, "remove", 50);
        due(gone, NONE, "find", 50, 0);
        due(gone, 4, "put", 50, 1, 1);
        dueKeys(gone, 3, 0, 0, 0, 0, 0);

        says(16, "or there are but 2");
        due(read("t;1011,2021,3031"), 2, "remove", 20);
        refused(of("t;1011,3031"), STATE, "remove", 10);
        refused(of("t;1011,3031"), STATE, "remove", 30);
        Make splitOff = () -> {
            LaneRow y = read(FIVE);
            y.split(30);
            return y;
        };
        refused(splitOff, STATE, "remove", 10);
    }

    private static void split() {
        says(17, "All KEYS that are not less than one come into the second ROW: how many.");
        int[][] want = {{21, 3, 2}, {30, 3, 2}, {31, 2, 3}, {40, 2, 3}, {41, 1, 4}, {50, 1, 4}};
        for (int[] line : want) {
            LaneRow x = read(FIVE);
            due(x, line[1], "split", line[0]);
            due(x, line[1], "count", 5);
            due(x, line[2], "count", 0);
            due(x, 1, "count", 8);
        }
        LaneRow ends = read("t;0011,1011,9911");
        due(ends, 1, "split", 99);
        dueTape(ends, "t;0011,1011");

        says(17, "OUTSIDE: key (0 to 99)");
        refused(of(FIVE), OUTSIDE, "split", -1);
        refused(of(FIVE), OUTSIDE, "split", 100);
        refused(of(FIVE), OUTSIDE, "split", LOW);
        refused(of(FIVE), OUTSIDE, "split", HIGH);
        refused(of(FIVE), STATE, "split", 0);
        refused(of(FIVE), STATE, "split", 99);
        refused(NO_ROW, OUTSIDE, "split", 100);
        refused(RICH, OUTSIDE, "split", -1);

        says(17, "STATE: no ROW");
        refused(NO_ROW, STATE, "split", 50);

        says(17, "the second ROW is not empty");
        refused(RICH, STATE, "split", 30);
        Make one = () -> {
            LaneRow y = read(FIVE);
            y.split(50);
            return y;
        };
        refused(one, STATE, "split", 30);
        LaneRow again = one.make();
        again.join();
        due(again, 3, "split", 30);

        says(17, "fewer than 2 would stay");
        refused(of(FIVE), STATE, "split", 20);
        refused(of(FIVE), STATE, "split", 11);
        refused(of(FIVE), STATE, "split", 10);
        due(read(FIVE), 3, "split", 21);
        refused(of("t;1011,2011"), STATE, "split", 20);

        says(17, "or none would go");
        refused(of(FIVE), STATE, "split", 51);
        due(read(FIVE), 1, "split", 50);
    }

    private static LaneRow splitFive() {
        LaneRow x = asked(read(FIVE), 40, 3);
        x.split(30);
        return x;
    }

    private static void join() {
        says(18, "The second ROW comes behind THE ROW again (with VALUES, HEAT; HEIGHTS of a plain LAW): "
            + "how many KEYS there are.");
        LaneRow x = splitFive();
        dueKeys(x, 3, 0, 0);
        due(x, 5, "join");
        dueTape(x, FIVE);
        dueKeys(x, 3, 0, 0, 0, 3, 0);
        due(x, 0, "count", 5);
        due(x, 2, "count", 8);
        LaneRow h = read("h;001,021,031,071");
        h.split(3);
        h.put(1, 1, 4);
        due(h, 5, "join");
        dueKeys(h, 2, 1, 2, 1, 3, 4);
        LaneRow e = read("e;101,201,301,401");
        e.split(30);
        e.put(15, 0, 1);
        due(e, 5, "join");
        dueKeys(e, 2, 1, 2, 1, 3, 1);
    }

    private static void joinRefused() {
        says(18, "STATE: it is empty");
        refused(NO_ROW, STATE, "join");
        refused(of(FIVE), STATE, "join");
        LaneRow twice = splitFive();
        twice.join();
        due(twice, STATE, "join");

        says(18, "its first KEY is not greater than the last one of THE ROW");
        LaneRow less = splitFive();
        less.put(29, 0, 1);
        due(less, 6, "join");
        for (int key : new int[] {30, 31, 99}) {
            refused(() -> {
                LaneRow y = splitFive();
                y.put(key, 0, 1);
                return y;
            }, STATE, "join");
        }

        says(18, "FULL: there would be more than 8");
        LaneRow eight = splitFive();
        Make nine = () -> {
            LaneRow y = splitFive();
            for (int key = 21; key <= 24; key++) {
                y.put(key, 0, 1);
            }
            return y;
        };
        for (int key = 21; key <= 23; key++) {
            eight.put(key, 0, 1);
        }
        due(eight, 8, "join");
        refused(nine, FULL, "join");
        refused(() -> {
            LaneRow y = nine.make();
            y.put(31, 0, 1);
            return y;
        }, STATE, "join");
    }

    private static void cost() {
        says(19, "COST.");
        LaneRow x = read(FIVE);
        due(x, 0, "cost");
        x.ask(35);
        due(x, 0, "cost");
        x.ask(20);
        due(x, 5, "cost");
        x.ask(30);
        due(x, 6, "cost");
        x.split(30);
        due(x, 2, "cost");

        says(19, "STATE: no ROW");
        refused(NO_ROW, STATE, "cost");
        due(read("t;1011,2011"), 0, "cost");
    }

    private static void best() {
        says(20, "what = 0 how much, 1 LINKS, 10 to 15 HEIGHT of KEY 0 to 5");
        LaneRow six = asked(read("h;001,011,021,031,041,051"), 5, 1);
        due(six, 1, "best", 7, 0);
        due(six, 7, "best", 18, 1);
        int[] heights = {1, 1, 1, 1, 1, 2};
        for (int number = 0; number < 6; number++) {
            due(six, heights[number], "best", 18, 10 + number);
        }
        due(six, 6, "best", 6, 0);

        says(20, "(NONE: there is none such)");
        LaneRow two = read("t;1011,2011");
        due(two, 1, "best", 2, 11);
        for (int what = 12; what <= 15; what++) {
            due(two, NONE, "best", 2, what);
        }
        LaneRow five = read(FIVE);
        due(five, 1, "best", 5, 14);
        due(five, NONE, "best", 5, 15);

        says(20, "NONE: there are too few");
        for (int what : new int[] {0, 1, 10, 11, 15}) {
            due(read("t;1011,2011"), NONE, "best", 1, what);
            due(read(FIVE), NONE, "best", 4, what);
        }
        due(read("t;1011,2011"), 2, "best", 2, 1);
        due(read(FIVE), 5, "best", 5, 1);
    }

    private static LaneRow bestDone(int times) {
        LaneRow x = read("t;1011,2011");
        for (int i = 0; i < times; i++) {
            x.best(i % 2 + 1, 0);
        }
        return x;
    }

    private static void bestRefused() {
        says(20, "OUTSIDE: links (1 to 18), what");
        for (int what : new int[] {0, 1, 10, 15}) {
            bound(RICH, OUTSIDE, "best", 0, 1, 18, 0, what);
        }
        bound(RICH, OUTSIDE, "best", 1, 0, 1, 18, 0);
        bound(RICH, OUTSIDE, "best", 1, 10, 15, 18, 0);
        refused(RICH, OUTSIDE, "best", 0, 2);
        refused(NO_ROW, OUTSIDE, "best", 0, 0);
        refused(NO_ROW, OUTSIDE, "best", 19, 0);
        refused(NO_ROW, OUTSIDE, "best", 1, 9);
        refused(of(EIGHT), OUTSIDE, "best", 18, 16);
        refused(() -> bestDone(12), OUTSIDE, "best", 0, 0);

        says(20, "STATE: no ROW");
        refused(NO_ROW, STATE, "best", 1, 0);
        refused(NO_ROW, STATE, "best", 18, 15);

        says(20, "there are more than 6 KEYS");
        due(read(EIGHT.substring(0, 31)), 0, "best", 18, 0);
        refused(of(EIGHT.substring(0, 36)), STATE, "best", 18, 0);
        refused(of(EIGHT), STATE, "best", 18, 0);
        LaneRow split = read(EIGHT);
        split.split(60);
        due(split, 0, "best", 18, 0);

        says(20, "or best() was done 12 times");
        due(bestDone(11), 0, "best", 2, 0);
        refused(() -> bestDone(12), STATE, "best", 2, 0);
        refused(() -> bestDone(12), STATE, "best", 1, 15);
        LaneRow other = page(bestDone(12), "t;1011,2011");
        due(other, 2, "row");
        due(other, STATE, "best", 2, 0);
        due(other, 12, "count", 12);
        LaneRow refusedOnes = bestDone(11);
        refusedOnes.best(0, 0);
        refusedOnes.best(2, 2);
        due(refusedOnes, 2, "best", 2, 1);
        due(refusedOnes, STATE, "best", 2, 1);
    }

    private static void change() {
        says(21, "what = 0 which KEY's number, 1 HEIGHT, 2 COST then");
        LaneRow x = asked(read(FIVE), 20, 2);
        due(x, 1, "change", 0);
        due(x, 4, "change", 1);
        due(x, 2, "change", 2);
        dueTape(x, FIVE);
        LaneRow first = asked(read("t;1014,2012"), 20, 99);
        due(first, 0, "change", 0);
        due(first, 1, "change", 1);
        due(first, 99, "change", 2);

        says(21, "; NONE.");
        for (int what = 0; what <= 2; what++) {
            due(read(FIVE), NONE, "change", what);
            due(asked(read(FIVE), 30, 1), NONE, "change", what);
        }

        says(21, "OUTSIDE;");
        bound(RICH, OUTSIDE, "change", 0, 0, 2, 0);
        refused(NO_ROW, OUTSIDE, "change", 3);
        refused(NO_ROW, OUTSIDE, "change", -1);

        says(21, "STATE: no ROW");
        for (int what = 0; what <= 2; what++) {
            refused(NO_ROW, STATE, "change", what);
        }
    }

    private static LaneRow seenTimes(int times) {
        LaneRow x = read(FIVE);
        for (int i = 0; i < times; i++) {
            x.see(1, 20, 4);
        }
        return x;
    }

    private static void see() {
        says(22, "It is SEEN: how much is.");
        LaneRow x = read(FIVE);
        due(x, 1, "see", 0, 10, 3);
        due(x, 2, "see", 4, 99, 99);
        due(x, 3, "see", 0, 10, 3);
        dueKeys(x, 6, 2, 15, 15, 15, 0);
        due(x, 3, "count", 9);
        LaneRow moved = seenTimes(1);
        moved.put(5, 0, 1);
        dueKeys(moved, 6, 15, 15, 2, 15, 15, 15);
        moved.remove(20);
        due(moved, 1, "count", 9);
        dueKeys(moved, 6, 15, 15, 15, 15, 15);

        says(22, "UNKNOWN: number");
        bound(of("t;1011,2011"), UNKNOWN, "see", 0, 0, 1, 0, 0, 0);
        bound(of(EIGHT), UNKNOWN, "see", 0, 0, 7, 0, 0, 0);
        bound(RICH, UNKNOWN, "see", 0, 0, 4, 0, 0, 0);
        refused(RICH, UNKNOWN, "see", 5, 100, 100);
        refused(NO_ROW, UNKNOWN, "see", 0, 0, 0);
        refused(NO_ROW, UNKNOWN, "see", 0, -1, -1);
        refused(() -> seenTimes(6), UNKNOWN, "see", 5, 0, 0);

        says(22, "OUTSIDE: key (0 to 99), looks (0 to 99)");
        bound(RICH, OUTSIDE, "see", 1, 0, 99, 0, 0, 0);
        bound(RICH, OUTSIDE, "see", 2, 0, 99, 0, 0, 0);
        refused(() -> seenTimes(6), OUTSIDE, "see", 0, 100, 0);
        refused(() -> seenTimes(6), OUTSIDE, "see", 0, 0, -1);

        says(22, "FULL.");
        due(seenTimes(5), 6, "see", 1, 20, 4);
        refused(() -> seenTimes(6), FULL, "see", 1, 20, 5);
        refused(() -> seenTimes(6), FULL, "see", 0, 0, 0);
        LaneRow again = seenTimes(6);
        again.forget();
        due(again, 1, "see", 1, 20, 5);
    }

    private static void forget() {
        says(23, "Nothing is SEEN any more: how much was.");
        due(new LaneRow(), 0, "forget");
        for (int times = 0; times <= 6; times++) {
            LaneRow x = seenTimes(times);
            due(x, times, "forget");
            due(x, 0, "forget");
            due(x, 0, "count", 9);
            dueKeys(x, 6, 15, 15, 15, 15, 15);
        }
        LaneRow later = seenTimes(2);
        later.forget();
        later.see(1, 20, 5);
        dueKeys(later, 6, 15, 1, 15, 15, 15);
    }

    private static void rounds() {
        says(24, "ROUNDS: what = 0 how many, 1 LOOKS, 2 the SEED then.");
        LaneRow x = read(FIVE);
        for (int seed : new int[] {0, 1, 2, 4242, HIGH - 1, HIGH}) {
            BigInteger now = BigInteger.valueOf(seed);
            int found = 0;
            int looks = 0;
            for (int times = 1; times <= 60; times++) {
                now = BigInteger.valueOf(1103515245).multiply(now).add(BigInteger.valueOf(12345))
                    .mod(BigInteger.TWO.pow(31));
                int key = now.divide(BigInteger.valueOf(65536)).mod(BigInteger.valueOf(100)).intValue();
                found += key > 0 && key <= 50 && key % 10 == 0 ? 1 : 0;
                looks += read(FIVE).find(key, 1);
                if (times == 1 || times == 2 || times == 59 || times == 60) {
                    due(x, found, "rounds", times, seed, 0);
                    due(x, looks, "rounds", times, seed, 1);
                    due(x, now.intValueExact(), "rounds", times, seed, 2);
                }
            }
        }
        LaneRow same = rich();
        same.rounds(60, 7, 1);
        dueSame("what there is behind rounds()", reveal(same), reveal(rich()));

        says(24, "OUTSIDE: times (1 to 60), seed (0 at least), what");
        for (int what = 0; what <= 2; what++) {
            bound(RICH, OUTSIDE, "rounds", 0, 1, 60, 0, 0, what);
            bound(RICH, OUTSIDE, "rounds", 1, 0, HIGH, 1, 0, what);
        }
        bound(RICH, OUTSIDE, "rounds", 2, 0, 2, 1, 0, 0);
        refused(NO_ROW, OUTSIDE, "rounds", 0, 0, 0);
        refused(NO_ROW, OUTSIDE, "rounds", 1, -1, 0);
        refused(NO_ROW, OUTSIDE, "rounds", 1, 0, 3);

        says(24, "STATE: no ROW");
        refused(NO_ROW, STATE, "rounds", 1, 0, 0);
        refused(NO_ROW, STATE, "rounds", 60, HIGH, 2);
    }

    private static void image() {
        says(25, "An IMAGE is kept (one; the latest): how many changes there were.");
        LaneRow x = read(FIVE);
        due(x, 0, "image");
        x.put(60, 1, 1);
        due(x, 1, "image");
        x.remove(60);
        x.remove(50);
        due(x, 1, "restore");
        dueTape(x, FIVE + ",6011");
        x.remove(10);
        due(x, 2, "image");
        due(x, 2, "restore");
        due(x, 2, "restore");
        dueTape(x, "t;2031,3054,4072,5091,6011");
        LaneRow same = rich();
        due(same, same.count(8), "image");
        due("digest() behind image()", same.digest(), rich().digest());

        says(25, "STATE: no ROW");
        refused(NO_ROW, STATE, "image");
        refused(() -> written(FIVE), STATE, "image");
        due(read(FIVE), 0, "image");
    }

    private static void restore() {
        says(26, "It goes on from the IMAGE: how many changes there were.");
        LaneRow x = read(FIVE);
        x.put(60, 1, 1);
        x.image();
        x.put(61, 1, 1);
        due(x, 1, "restore");
        due(x, 1, "count", 8);
        x.put(62, 1, 1);
        due(x, 2, "count", 8);
        dueTape(x, FIVE + ",6011,6211");
        due(x, 1, "restore");
        dueTape(x, FIVE + ",6011");

        says(26, "STATE: none was kept");
        refused(NO_ROW, STATE, "restore");
        refused(of(FIVE), STATE, "restore");

        says(26, "or there is another ROW since");
        Make other = () -> {
            LaneRow y = page(rich(), FIVE);
            y.row();
            return y;
        };
        refused(other, STATE, "restore");
        LaneRow same = read(FIVE);
        same.image();
        page(same, FIVE);
        due(same, 0, "restore");
        due(same, 5, "row");
        due(same, STATE, "restore");
        due(same, 0, "image");
        due(same, 0, "restore");
        LaneRow none = page(rich(), "h;10");
        due(none, STATE, "row");
        due(none, 1, "restore");
    }

    private static void count() {
        says(27, "How many: 0 KEYS, 1 LANES (0: no ROW), 2 LINKS, 3 all VALUES, 4 all HEAT, 5 KEYS of the second ROW, "
            + "6 how many ASKED (for KEYS that are there, or not), 7 all LOOKS of these");
        LaneRow x = rich();
        // KEYS 10, 20, 25, 30, 40; VALUES 1, 3, 6, 5, 7; HEIGHTS 2, 1, 3, 4, 2; HEAT of 20 3, of 25 1.
        int[] want = {5, 4, 12, 22, 4, 2, 7, 0, 3, 2, 8, 1, 1};
        want[7] = looksOfRich();
        for (int what = 0; what <= 7; what++) {
            due(x, want[what], "count", what);
            due(new LaneRow(), 0, "count", what);
        }
        due(read("t;1011,2011"), 1, "count", 1);
        LaneRow ends = asked(asked(read("t;0041,9952"), 0, 2), 99, 3);
        due(ends, 9, "count", 3);
        due(ends, 5, "count", 4);
        due(asked(read(EIGHT), 0, 99), 99, "count", 4);

        says(27, "8 changes (put(), remove(), split(), join()), 9 what is SEEN, 10 letters of THE PAGE, "
            + "11 how often a ROW was read, 12 how often best() was done");
        for (int what = 8; what <= 12; what++) {
            due(x, want[what], "count", what);
            due(new LaneRow(), 0, "count", what);
        }
        LaneRow y = read(FIVE);
        y.ask(10);
        y.see(0, 0, 0);
        y.image();
        y.change(0);
        y.rounds(1, 0, 0);
        due(y, 0, "count", 8);
        y.put(10, 1, 2);
        due(y, 1, "count", 8);
        y.remove(20);
        due(y, 2, "count", 8);
        y.split(40);
        due(y, 3, "count", 8);
        y.join();
        due(y, 4, "count", 8);

        says(27, "OUTSIDE.");
        bound(RICH, OUTSIDE, "count", 0, 0, 12, 0);
        bound(NO_ROW, OUTSIDE, "count", 0, 0, 12, 0);
    }

    /** HEIGHTS 3, 2, 1, 4, 2, 1, 4 of KEYS 5, 10, 20, 30, 40, 50, 90; then 25 is ASKED for with others. */
    private static int looksOfRich() {
        int for20 = 6;
        int for50 = 6;
        int for33 = 5;
        int for25 = 3;
        return 3 * for20 + 2 * for50 + for33 + for25;
    }

    private static void tell(List<Integer> all, int... numbers) {
        for (int number : numbers) {
            all.add(number);
        }
    }

    /** What digest() goes over, in order, as the other calls tell it. */
    private static List<Integer> toldOf(LaneRow x, String page) {
        List<Integer> all = new ArrayList<>();
        boolean isRow = x.count(0) > 0;
        for (int number = 0; number < x.count(0); number++) {
            for (int what : new int[] {0, 1, 2, 3, 4, 5, 6, 10, 11, 12, 13, 20, 21, 22, 23}) {
                tell(all, x.key(number, what));
            }
        }
        for (int lane = 0; lane <= 3 && isRow; lane++) {
            tell(all, x.lane(lane, 0), x.lane(lane, 1), x.lane(lane, 2), x.lane(lane, 3));
        }
        for (int number = 0; number < x.count(0); number++) {
            tell(all, x.nth(number, 1));
        }
        if (isRow) {
            tell(all, x.cost(), x.change(0), x.change(1), x.change(2));
            tell(all, tape(x).chars().toArray());
        }
        tell(all, page.chars().toArray());
        for (int what = 0; what <= 12; what++) {
            tell(all, x.count(what));
        }
        return all;
    }

    private static long foldOf(List<Integer> all) {
        BigInteger h = BigInteger.valueOf(1151);
        for (int number : all) {
            h = h.multiply(BigInteger.valueOf(31)).add(BigInteger.valueOf(number));
        }
        return h.longValue();
    }

    private static void digest() {
        says(28, "h is 1151, then for each of these numbers, in order, 31 times h, and it (as longs, wrapping)");
        List<Integer> zeros = new ArrayList<>();
        tell(zeros, new int[13]);
        due("digest() of a new object", new LaneRow().digest(), foldOf(zeros));
        due("digest() of more than a long holds", read(EIGHT).digest(), foldOf(toldOf(read(EIGHT), "")));

        says(28, "of each KEY what key() tells for 0 to 6, 10 to 13, 20 to 23");
        due("digest()", rich().digest(), foldOf(toldOf(rich(), "e;111,22")));
        due("digest()", seenTimes(2).digest(), foldOf(toldOf(seenTimes(2), "")));

        says(28, "of each LANE what lane() tells for 0 to 3 (with a ROW)");
        for (int height = 1; height <= 4; height++) {
            String text = "t;1011,201" + height;
            due("digest() of " + text, read(text).digest(), foldOf(toldOf(read(text), "")));
        }

        says(28, "with a ROW of each NUMBER the LOOKS of nth(), COST, what change() tells for 0 to 2, "
            + "letters of its tape");
        LaneRow warm = asked(read(FIVE), 20, 99);
        due("digest()", warm.digest(), foldOf(toldOf(asked(read(FIVE), 20, 99), "")));
        for (String law : LAWS) {
            String text = law.equals("t") ? EIGHT : law + ";000,110,220,330,440,550,660,999";
            due("digest() of " + text, read(text).digest(), foldOf(toldOf(read(text), "")));
        }

        says(28, "letters of THE PAGE");
        for (String some : new String[] {"A", "BA", (char) 1 + "" + (char) 126, "z".repeat(44)}) {
            due("digest() of a page", written(some).digest(), foldOf(toldOf(written(some), some)));
        }

        says(28, "what count() tells for 0 to 12");
        LaneRow done = bestDone(12);
        due("digest()", done.digest(), foldOf(toldOf(bestDone(12), "")));
        LaneRow again = page(read(FIVE), FIVE);
        again.row();
        due("digest()", again.digest(), foldOf(toldOf(again, "")));
        due("it is another one", again.digest() == read(FIVE).digest() ? 1 : 0, 0);
    }
}
