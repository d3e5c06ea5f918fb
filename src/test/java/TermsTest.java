import java.io.IOException;
import java.util.regex.Pattern;

/** Each sentence of 'What it is' and 'Terms' that names a bound, an order or a rest, with a test of its own. */
public final class TermsTest extends Check {
    private static final String WHAT = "What it is";
    private static final String TERMS = "Terms";

    public static void main(String[] args) throws IOException {
        readDocument();
        keysOfARow();
        valuesAndHeightsOfARow();
        calls();
        lanes();
        texts();
        kinds();
        heightsByLaw();
        heightsByNumber();
        looks();
        links();
        numbers();
        fingers();
        heat();
        best();
        change();
        seen();
        tries();
        rounds();
        image();
        refusals();
        isAllQuoted(WHAT, Pattern.compile("\\([^)]+\\)|at most"));
        isAllQuoted(TERMS, Pattern.compile(
            "\\([^)]+\\)|at most|least|of like ones|none, if|\\brest\\b|greate|together"
            + "|NONE|UNKNOWN|OUTSIDE|STATE|FULL"));
        end();
    }

    private static LaneRow written(String text) {
        return page(new LaneRow(), text);
    }

    private static void keysOfARow() {
        says(WHAT, "2 to 8 KEYS");
        due(written("h;105"), STATE, "row");
        due(written("h;105,206"), 2, "row");
        due(written("h;000,010,020,030,040,050,060,070"), 8, "row");
        due(written("h;000,010,020,030,040,050,060,070,080"), STATE, "row");
        due(written("t;1051"), STATE, "row");
        due(written("t;1051,2061"), 2, "row");
        due(written(EIGHT), 8, "row");
        LaneRow x = read("t;1011,2011,3011");
        due(x, 1, "remove", 20);
        due(x, STATE, "remove", 30);
        for (int key = 1; key <= 6; key++) {
            due(x, key - 1, "put", key, 0, 1);
        }
        due(x, FULL, "put", 7, 0, 1);
        due(x, 8, "count", 0);

        says(WHAT, "KEYS (0 to 99)");
        LaneRow ends = read("h;001,992");
        dueKeys(ends, 0, 0, 99);
        due(ends, 0, "find", 0, 0);
        due(ends, 1, "find", 99, 0);

        says(WHAT, "each greater than the one before");
        for (String law : new String[] {"h", "s", "e", "d"}) {
            due(written(law + ";101,111"), 2, "row");
            due(written(law + ";101,101"), STATE, "row");
            due(written(law + ";101,091"), STATE, "row");
            due(written(law + ";101,301,201"), STATE, "row");
            due(written(law + ";101,301,301"), STATE, "row");
        }
        due(written("t;1011,1111"), 2, "row");
        due(written("t;1011,1011"), STATE, "row");
        due(written("t;1111,1011"), STATE, "row");

        says(WHAT, "numbered from 0");
        LaneRow five = read(FIVE);
        dueKeys(five, 0, 10, 20, 30, 40, 50);
        due(five, 0, "find", 10, 0);
        due(five, 4, "find", 50, 0);
        due(five, 10, "nth", 0, 0);
    }

    private static void valuesAndHeightsOfARow() {
        says(WHAT, "a VALUE (0 to 9)");
        dueKeys(read("h;100,209"), 1, 0, 9);
        due(written("h;10/"), 4, "fault");
        due(written("h;10:"), 4, "fault");
        LaneRow x = read("h;101,201");
        due(x, 0, "put", 10, 0, 1);
        due(x, 1, "put", 20, 9, 1);
        dueKeys(x, 1, 0, 9);
        due(x, OUTSIDE, "put", 10, -1, 1);
        due(x, OUTSIDE, "put", 10, 10, 1);

        says(WHAT, "a HEIGHT (1 to 4)");
        dueKeys(read("t;1011,2014"), 2, 1, 4);
        due(written("t;1010"), 5, "fault");
        due(written("t;1015"), 5, "fault");
        LaneRow y = read("t;1012,2012");
        due(y, 0, "put", 10, 1, 1);
        due(y, 1, "put", 20, 1, 4);
        dueKeys(y, 2, 1, 4);
        due(y, OUTSIDE, "put", 10, 1, 0);
        due(y, OUTSIDE, "put", 10, 1, 5);
    }

    private static void calls() {
        says(WHAT, "An object is used for at most 512 calls after it has been made");
        LaneRow x = read(EIGHT);
        // A new page is blanked first.
        int made = 1 + EIGHT.length() + 1;
        for (; made + 4 <= 512; made += 4) {
            due(x, NONE, "change", 0);
            due(x, 1, "find", 30, 1);
            due(x, 8, "count", 0);
            due(x, 30, "nth", 3, 0);
        }
        for (; made < 512; made++) {
            due(x, 7, "find", 99, 0);
        }
    }

    private static void lanes() {
        says(TERMS, "LANE j (0 to 3) has all KEYS of a HEIGHT above j; so LANE 0 has all.");
        LaneRow x = read("t;1011,2012,3013,4014");
        LaneRow low = read("t;1011,2011");
        for (int lane = 0; lane <= 3; lane++) {
            due(x, 4 - lane, "lane", lane, 0);
            due(low, lane == 0 ? 2 : 0, "lane", lane, 0);
        }
        due(x, UNKNOWN, "lane", -1, 0);
        due(x, UNKNOWN, "lane", 4, 0);

        says(TERMS, "LANES go as high as the greatest HEIGHT.");
        for (int height = 1; height <= 4; height++) {
            due(read("t;1011,201" + height + ",3011"), height, "count", 1);
            due(read("t;101" + height + ",2011"), height, "count", 1);
            due(read("t;1011,201" + height), height, "count", 1);
        }
    }

    private static void texts() {
        says(TERMS, "A ROW is a text: a letter, the KIND of its LAW; \";\"; KEYS with \",\" between, "
            + "each two digits, and a digit, the VALUE");
        for (String law : new String[] {"h", "s", "e", "d"}) {
            LaneRow x = read(law + ";012,345");
            dueKeys(x, 0, 1, 34);
            dueKeys(x, 1, 2, 5);
            due(written(law + ";012;345"), 5, "fault");
            due(written(law + ",012,345"), 1, "fault");
            due(written(law + ";012,345,"), STATE, "row");
            due(written(law + ";012,34"), STATE, "row");
            due(written(law + ";012,3456"), 9, "fault");
            due(written(";" + law), 0, "fault");
        }

        says(TERMS, "by a plain LAW \"t\" one digit more, the HEIGHT");
        LaneRow t = read("t;0123,3454");
        dueKeys(t, 0, 1, 34);
        dueKeys(t, 1, 2, 5);
        dueKeys(t, 2, 3, 4);
        due(written("t;012,345"), 5, "fault");
        due(written("t;0123,345"), STATE, "row");
        due(written("t;0123,34544"), 11, "fault");

        says(TERMS, "(a KEY that is not greater than the one before is a fault at its second digit)");
        for (String law : new String[] {"h", "s", "e", "d"}) {
            due(written(law + ";351,3"), 7, "fault");
            due(written(law + ";351,2"), 7, "fault");
            due(written(law + ";351,0"), 7, "fault");
            due(written(law + ";351,34"), 7, "fault");
            due(written(law + ";351,35"), 7, "fault");
            due(written(law + ";351,36"), 8, "fault");
            due(written(law + ";351,29"), 7, "fault");
            due(written(law + ";351,40"), 8, "fault");
            due(written(law + ";351,991,99"), 11, "fault");
            due(written(law + ";351,401,36"), 11, "fault");
        }
        due(written("t;3511,2"), 8, "fault");
        due(written("t;3511,35"), 8, "fault");
        due(written("t;3511,36"), 9, "fault");
        due(written("t;3511,4011,40"), 13, "fault");

        says(TERMS, "At first there is none.");
        LaneRow none = new LaneRow();
        due(none, 0, "count", 0);
        due(none, STATE, "tape", 0);
        due(none, STATE, "row");
    }

    private static void kinds() {
        says(TERMS, "KINDS are told by the letter: 0 LAW \"t\", 1 HALVES \"h\", 2 SUMS \"s\", 3 EVEN \"e\", "
            + "4 THIRDS \"d\".");
        String[] rows = {"t;1011,2011", "h;101,201", "s;101,201", "e;101,201", "d;101,201"};
        for (int kind = 0; kind <= 4; kind++) {
            due(read(rows[kind]), 1, "as", kind);
        }

        says(TERMS, "All are LAWS; THIRDS are HALVES, too.");
        for (int of = 0; of <= 4; of++) {
            for (int kind = 0; kind <= 4; kind++) {
                boolean is = kind == 0 || kind == of || (of == 4 && kind == 1);
                due(read(rows[of]), is ? 1 : NONE, "as", kind);
            }
        }
    }

    private static int heightBy(String law, int key) {
        String two = key < 10 ? "0" + key : "" + key;
        return key == 0 ? read(law + ";" + two + "0,990").key(0, 2) : read(law + ";000," + two + "0").key(1, 2);
    }

    private static void heightsByLaw() {
        says(TERMS, "by a plain LAW as it was told");
        dueKeys(read("t;0014,0712,1531,8013"), 2, 4, 2, 1, 3);

        says(TERMS, "by HALVES 1, and 1 more for each time that 2 divides the KEY and 1 together without rest");
        for (int key = 0; key <= 99; key++) {
            int height = (key + 1) % 8 == 0 ? 4 : (key + 1) % 4 == 0 ? 3 : (key + 1) % 2 == 0 ? 2 : 1;
            due("HEIGHT of " + key, heightBy("h", key), height);
        }

        says(TERMS, "by THIRDS likewise, with 3 for 2");
        for (int key = 0; key <= 99; key++) {
            int height = (key + 1) % 27 == 0 ? 4 : (key + 1) % 9 == 0 ? 3 : (key + 1) % 3 == 0 ? 2 : 1;
            due("HEIGHT of " + key, heightBy("d", key), height);
        }

        says(TERMS, "by SUMS 1, and the rest of both its digits together by 4");
        int[] sums = {1, 2, 3, 4};
        for (int tens = 0; tens <= 9; tens++) {
            for (int ones = 0; ones <= 9; ones++) {
                due("HEIGHT of " + tens + ones, heightBy("s", 10 * tens + ones), sums[(tens + ones) % 4]);
            }
        }

        says(TERMS, "4 at most");
        for (int key : new int[] {7, 15, 31, 47, 63, 79, 95}) {
            due("HEIGHT of " + key + " by HALVES", heightBy("h", key), 4);
        }
        for (int key : new int[] {26, 53, 80}) {
            due("HEIGHT of " + key + " by THIRDS", heightBy("d", key), 4);
        }
        for (int key : new int[] {3, 21, 30, 96}) {
            due("HEIGHT of " + key + " by SUMS", heightBy("s", key), 4);
        }
        due("HEIGHT of number 7 by EVEN", read("e;000,010,020,030,040,050,060,070").key(7, 2), 4);
    }

    private static void heightsByNumber() {
        says(TERMS, "by EVEN 1, and 1 more for each time that 2 divides its number and 1 together without rest");
        dueKeys(read("e;000,110,150,310,630,790,950,990"), 2, 1, 2, 1, 3, 1, 2, 1, 4);
        dueKeys(read("e;150,310"), 2, 1, 2);

        says(TERMS, "so that all are made anew with each change of the ROW");
        LaneRow x = read("e;101,201,301,401,501");
        dueKeys(x, 2, 1, 2, 1, 3, 1);
        x.remove(10);
        dueKeys(x, 2, 1, 2, 1, 3);
        x.put(5, 0, 4);
        dueKeys(x, 2, 1, 2, 1, 3, 1);
        x.put(5, 1, 3);
        dueKeys(x, 2, 1, 2, 1, 3, 1);
        x.split(30);
        dueKeys(x, 2, 1, 2);
        x.put(0, 0, 4);
        dueKeys(x, 2, 1, 2, 1);
        x.join();
        dueKeys(x, 0, 0, 5, 20, 30, 40, 50);
        dueKeys(x, 2, 1, 2, 1, 3, 1, 2);
    }

    private static void looks() {
        says(TERMS, "To look FOR a KEY one begins ahead of all, in the highest LANE.");
        LaneRow x = read("t;1012,2011");
        due(x, 1, "find", 10, 1);
        due(x, 1, "find", 10, 2);
        due(read(FIVE), 3, "find", 30, 2);

        says(TERMS, "As long as there is a next KEY in that LANE, one LOOKS at it (1 LOOK)");
        LaneRow all = read("t;1014,2014,3014");
        for (int number = 0; number < 3; number++) {
            due(all, number + 1, "find", 10 * number + 10, 1);
        }

        says(TERMS, "if it is the one, it is found there");
        LaneRow five = read(FIVE);
        int[][] found = {{10, 3, 1}, {20, 5, 0}, {30, 1, 3}, {40, 2, 1}, {50, 3, 0}};
        for (int[] line : found) {
            due(five, line[1], "find", line[0], 1);
            due(five, line[2], "find", line[0], 2);
        }

        says(TERMS, "if it is less, one goes there, and on in that LANE");
        due(all, 3, "find", 30, 2);
        due(all, 3, "find", 30, 1);
        due(five, 3, "find", 99, 1);

        says(TERMS, "if it is greater, or there is no next one, one goes down a LANE");
        due(five, 4, "find", 0, 1);
        due(five, 4, "find", 9, 1);
        due(five, 5, "find", 15, 1);
        due(five, 6, "find", 25, 1);
        due(five, 3, "find", 35, 1);
        due(five, 3, "find", 45, 1);
        due(read("t;1014,2011"), 2, "find", 20, 1);

        says(TERMS, "below LANE 0 it is not found");
        for (int key : new int[] {0, 9, 11, 19, 21, 29, 31, 39, 41, 49, 51, 99}) {
            due(five, NONE, "find", key, 0);
            due(five, NONE, "find", key, 2);
        }
    }

    private static void links() {
        says(TERMS, "A LINK leads in a LANE from ahead of all, or from a KEY, to the next one: its WIDTH is "
            + "by how many numbers that is farther on (from ahead of all: its number and 1)");
        LaneRow x = read(FIVE);
        int[] first = {1, 1, 3, 3};
        for (int lane = 0; lane <= 3; lane++) {
            due(x, first[lane], "lane", lane, 1);
        }
        dueKeys(x, 10, 1, 1, 1, 1, NONE);
        dueKeys(x, 11, 2, NONE, 1, NONE, NONE);
        LaneRow far = read("t;0014,1011,2011,3011,4011,5011,6011,9914");
        due(far, 7, "key", 0, 13);
        due(read("t;0011,1011,2011,3011,4011,5011,6011,9914"), 8, "lane", 3, 1);

        says(TERMS, "its WEIGHT all VALUES of KEYS behind where it begins, up to that one, with it");
        int[] weight = {1, 1, 9, 9};
        for (int lane = 0; lane <= 3; lane++) {
            due(x, weight[lane], "lane", lane, 2);
        }
        dueKeys(x, 20, 3, 5, 7, 9, NONE);
        dueKeys(x, 21, 8, NONE, 7, NONE, NONE);
        due(read("t;0091,1091,2091,3091,4091,5091,6091,9994"), 72, "lane", 3, 2);
    }

    private static void numbers() {
        says(TERMS, "To look for a NUMBER goes the same way, by WIDTHS: 1 LOOK for each LINK that is thought of");
        LaneRow x = read(FIVE);
        int[] looks = {3, 5, 1, 2, 3};
        for (int number = 0; number < 5; number++) {
            due(x, looks[number], "nth", number, 1);
        }

        says(TERMS, "one goes, if one does not come beyond; found, if one is just there");
        int[] lanes = {1, 0, 3, 1, 0};
        for (int number = 0; number < 5; number++) {
            due(x, 10 * number + 10, "nth", number, 0);
            due(x, lanes[number], "nth", number, 2);
        }
        LaneRow last = read("t;0011,1011,2011,3011,4011,5011,6011,9914");
        due(last, 1, "nth", 7, 1);
        due(last, 3, "nth", 7, 2);
        due(last, 4, "nth", 0, 1);
        due(last, 10, "nth", 6, 1);
    }

    private static void fingers() {
        says(TERMS, "From a FINGER, a KEY that is not greater: one begins there, in its highest LANE, likewise");
        LaneRow x = read(FIVE);
        due(x, 2, "finger", 0, 20, 1);
        due(x, 1, "finger", 0, 30, 1);
        due(x, 2, "finger", 0, 11, 1);
        due(x, 1, "finger", 1, 21, 1);
        due(x, OUTSIDE, "finger", 1, 19, 0);
        due(x, 0, "finger", 4, 51, 1);
        due(x, NONE, "finger", 4, 51, 0);

        says(TERMS, "but behind each step one is in the highest LANE of the KEY where one came to");
        LaneRow up = read("t;1011,2012,3011,4011,5012");
        due(up, 2, "finger", 0, 50, 1);
        due(up, 4, "finger", 0, 50, 0);
        due(up, 3, "finger", 0, 30, 1);
        due(up, 5, "finger", 0, 45, 1);

        says(TERMS, "found without a LOOK, if it is the one");
        for (int number = 0; number < 5; number++) {
            due(x, number, "finger", number, 10 * number + 10, 0);
            due(x, 0, "finger", number, 10 * number + 10, 1);
        }
    }

    private static void heat() {
        says(TERMS, "One who ASKS for a KEY looks for it; if it is there, its HEAT is 1 more.");
        LaneRow x = read(FIVE);
        x.ask(20);
        dueKeys(x, 3, 0, 1, 0, 0, 0);
        due(x, 5, "count", 7);
        x.ask(21);
        dueKeys(x, 3, 0, 1, 0, 0, 0);
        due(x, 11, "count", 7);
        x.ask(20);
        dueKeys(x, 3, 0, 2, 0, 0, 0);

        says(TERMS, "COST: for each KEY its HEAT times the LOOKS FOR it, all together.");
        due(read(FIVE), 0, "cost");
        due(x, 10, "cost");
        x.ask(10);
        x.ask(50);
        due(x, 16, "cost");
        LaneRow most = read("t;0011,1011,2011,3011,4011,5011,6011,9914");
        asked(most, 60, 99);
        due(most, 990, "cost");

        says(TERMS, "LINKS: all HEIGHTS together.");
        due(x, 10, "count", 2);
        due(read("t;1011,2011"), 2, "count", 2);
        due(read("t;0014,1014,2014,3014,4014,5014,6014,9914"), 32, "count", 2);
    }

    private static void best() {
        says(TERMS, "BEST for so many LINKS, if there are 6 KEYS at most");
        due(read("h;001,011,021,031,041,051"), 6, "best", 6, 1);
        due(read("h;001,011,021,031,041,051,061"), STATE, "best", 7, 1);

        says(TERMS, "HEIGHTS (1 to 3) of all KEYS, whatever the LAW");
        // With a fourth LANE 1, 2, 3, 4 would make it 26.
        for (String law : new String[] {"h", "s", "e", "d"}) {
            LaneRow x = read(law + ";001,021,041,061");
            asked(x, 0, 1);
            asked(x, 2, 2);
            asked(x, 4, 4);
            asked(x, 6, 8);
            due(x, 27, "best", 18, 0);
            int[] heights = {1, 1, 2, 3};
            for (int number = 0; number < 4; number++) {
                due(x, heights[number], "best", 18, 10 + number);
            }
        }
        LaneRow first = read("h;001,021,041,061");
        asked(first, 0, 3);
        asked(first, 4, 1);
        asked(first, 6, 2);
        due(first, 10, "best", 18, 0);
        due(first, 9, "best", 18, 1);
        int[] firstHigh = {3, 1, 2, 3};
        for (int number = 0; number < 4; number++) {
            due(first, firstHigh[number], "best", 18, 10 + number);
        }
        LaneRow high = asked(read("t;1014,2014"), 20, 1);
        due(high, 1, "best", 18, 0);
        due(high, 1, "best", 18, 10);
        due(high, 2, "best", 18, 11);

        says(TERMS, "so that there are no more LINKS, and COST is least: how much; how high");
        LaneRow three = read("h;001,021,041");
        asked(three, 0, 1);
        asked(three, 2, 2);
        asked(three, 4, 4);
        int[] least = {NONE, 17, 12, 12, 11, 11};
        for (int links = 2; links <= 7; links++) {
            due(three, least[links - 2], "best", links, 0);
        }
        due(three, 6, "best", 9, 1);

        says(TERMS, "of like ones the first by numbers (KEY 0 first)");
        LaneRow cold = read("t;1014,2014,3014");
        for (int number = 0; number < 3; number++) {
            due(cold, 1, "best", 18, 10 + number);
        }
        LaneRow last = asked(read("t;1011,2011,3011"), 30, 1);
        int[] lastHigh = {1, 1, 2};
        for (int number = 0; number < 3; number++) {
            due(last, lastHigh[number], "best", 18, 10 + number);
        }
        // 1, 2, 1 and 1, 3, 3 and more cost 1; what comes ahead of 1, 2, 1 costs 2 or 3.
        LaneRow middle = asked(read("t;1011,2011,3011"), 20, 1);
        int[] one = {1, 2, 1};
        for (int number = 0; number < 3; number++) {
            due(middle, one[number], "best", 18, 10 + number);
        }

        says(TERMS, "none, if there are too few LINKS");
        due(read("t;1011,2011"), NONE, "best", 1, 0);
        due(read("t;1011,2011"), 0, "best", 2, 0);
        due(read("t;1014,2014"), NONE, "best", 1, 1);
        due(read("t;1014,2014"), 2, "best", 2, 1);
        due(read("h;001,011,021,031,041,051"), NONE, "best", 5, 0);
        due(read("h;001,011,021,031,041,051"), 0, "best", 6, 0);
    }

    private static void dueChange(LaneRow x, int number, int height, int cost) {
        due(x, number, "change", 0);
        due(x, height, "change", 1);
        due(x, cost, "change", 2);
    }

    private static void change() {
        says(TERMS, "which one KEY should have another HEIGHT (1 to 4), all others as they are, so that COST is least: "
            + "its number, HEIGHT");
        dueChange(asked(read(FIVE), 20, 1), 1, 4, 1);
        dueChange(asked(read("t;1014,2012"), 20, 1), 0, 1, 1);
        dueChange(asked(asked(read(FIVE), 20, 1), 50, 2), 1, 3, 8);

        says(TERMS, "of like ones the first by numbers, the least HEIGHT");
        dueChange(asked(read("t;1011,2011"), 20, 1), 1, 2, 1);
        dueChange(asked(read("t;1012,2012"), 20, 1), 0, 1, 1);
        dueChange(asked(read("t;1011,2011,3011"), 30, 3), 2, 2, 3);

        says(TERMS, "none, if by none it is less than now");
        dueChange(read(FIVE), NONE, NONE, NONE);
        dueChange(asked(read(FIVE), 30, 9), NONE, NONE, NONE);
        dueChange(asked(read("t;1011,2011"), 10, 1), NONE, NONE, NONE);
        dueChange(asked(read("t;1011,2012"), 20, 1), NONE, NONE, NONE);
        dueChange(asked(asked(read("t;1011,2011"), 10, 1), 20, 1), NONE, NONE, NONE);
        dueChange(asked(asked(read("t;1011,2011"), 10, 1), 20, 2), 1, 2, 4);
    }

    private static void seen() {
        says(TERMS, "SEEN (6 at most)");
        LaneRow six = read(FIVE);
        for (int i = 1; i <= 6; i++) {
            due(six, i, "see", 1, 20, 5);
        }
        due(six, FULL, "see", 1, 20, 5);
        due(six, 6, "count", 9);

        says(TERMS, "how many LOOKS there are FOR a KEY, if one KEY of the ROW, of which the HEIGHT is not known, "
            + "was so high, all others as they are");
        int[] bits = {0, 8, 4, 0, 2, 1, 0};
        for (int looks = 0; looks <= 6; looks++) {
            LaneRow x = read(FIVE);
            x.see(1, 20, looks);
            dueKeys(x, 6, 15, bits[looks], 15, 15, 15);
        }

        says(TERMS, "HEIGHTS (1 to 4) it can have, so that all that is SEEN of it is so: "
            + "as bits (1 for 1, 2 for 2, 4 for 3, 8 for 4)");
        LaneRow y = read("t;1011,2011");
        due(y, 15, "key", 1, 6);
        y.see(1, 20, 1);
        due(y, 14, "key", 1, 6);
        y.see(1, 0, 3);
        due(y, 4, "key", 1, 6);
        y.see(1, 0, 4);
        due(y, 0, "key", 1, 6);
        due(y, 15, "key", 0, 6);
        for (int looks = 1; looks <= 4; looks++) {
            LaneRow z = read("t;1011,2011");
            z.see(1, 0, looks);
            due(z, 1 << (looks - 1), "key", 1, 6);
        }
    }

    private static void tries() {
        says(TERMS, "TRY for one: FOR which KEY (0 to 99, there or not) to count LOOKS, "
            + "so that fewest of these are left at worst");
        due(read(FIVE), 20, "key", 1, 7);
        due(read("t;1011,2011"), 0, "key", 1, 7);
        // What is SEEN FOR 0 tells nothing of KEY 20: all four are left.
        LaneRow left = read(FIVE);
        left.see(1, 0, 4);
        due(left, 20, "key", 1, 7);
        triesOfSomeLeft();

        says(TERMS, "of like ones the least");
        LaneRow one = read(FIVE);
        one.see(1, 20, 4);
        due(one, 0, "key", 1, 7);
        due(read("t;0011,2011"), 0, "key", 0, 7);

        says(TERMS, "none, if there are none");
        LaneRow none = read(FIVE);
        none.see(1, 20, 3);
        due(none, NONE, "key", 1, 7);
        due(none, 0, "key", 1, 6);
    }

    private static void dueTry(String text, int number, int key, int looks, int bits, int tried) {
        LaneRow x = read(text);
        x.see(number, key, looks);
        due(x, bits, "key", number, 6);
        due(x, tried, "key", number, 7);
    }

    /** Two or three are left; one TRY tells them all apart, or there is none that does. */
    private static void triesOfSomeLeft() {
        dueTry("t;5411,6513", 0, 74, 1, 3, 54);
        dueTry("t;0912,6312", 1, 99, 2, 3, 10);
        dueTry("t;0513,3312,4911,8212", 2, 87, 3, 5, 6);
        dueTry("t;1413,2211,3112", 1, 73, 3, 6, 15);
        dueTry("t;5213,9713", 1, 38, 3, 7, 53);
        dueTry("t;3512,5914", 0, 97, 1, 7, 35);
        dueTry("t;3113,4814,5712", 1, 20, 3, 7, 32);
        dueTry("t;2813,5412,8312", 1, 7, 3, 7, 29);
        dueTry("t;0513,2813,3712,6914", 1, 66, 6, 9, 28);
        dueTry("t;2414,3313,4414,4512", 2, 81, 3, 9, 25);
        dueTry("t;4813,6712,9713", 1, 97, 2, 11, 67);
        dueTry("t;1514,4112,8511", 2, 90, 2, 12, 16);
        dueTry("t;2814,4512,5413", 1, 99, 3, 12, 29);
        dueTry("t;0914,6512,8311,8612,9112", 2, 99, 4, 13, 10);
        dueTry("t;0214,6911,8612", 1, 91, 3, 14, 3);
        dueTry("t;0514,2514,4312,7413", 1, 61, 6, 14, 6);
        dueTry("t;4014,5313,5414", 2, 11, 4, 15, 41);
        due(read("t;7414,7513,7613"), 75, "key", 2, 7);
        due(read("t;0912,9413"), 9, "key", 0, 7);
    }

    private static void rounds() {
        says(TERMS, "ROUNDS by a SEED, as they would be: so many times one looks FOR a KEY by a DRAW of 100: "
            + "how many are found; how many LOOKS");
        // The first DRAWS of SEED 1 are 38 and 58; of SEED 2 8; of SEED 0 0.
        LaneRow x = read("t;3811,5812");
        due(x, 1, "rounds", 1, 1, 0);
        due(x, 2, "rounds", 1, 1, 1);
        due(x, 2, "rounds", 2, 1, 0);
        due(x, 3, "rounds", 2, 1, 1);
        due(x, 0, "rounds", 1, 2, 0);
        due(x, 2, "rounds", 1, 2, 1);
        due(x, 0, "count", 6);
        due(x, 0, "count", 4);

        says(TERMS, "DRAWS: the next SEED each time: 1103515245 times it and 12345, its rest by 2 to the 31");
        due(x, 12345, "rounds", 1, 0, 2);
        due(x, 1103527590, "rounds", 1, 1, 2);
        due(x, 59559187, "rounds", 1, 2, 2);
        due(x, 1043980748, "rounds", 1, HIGH, 2);
        due(x, 1406932606, "rounds", 2, 0, 2);

        says(TERMS, "then that by 65536 (rounded down), its rest");
        due(read("t;0811,0912"), 1, "rounds", 1, 2, 0);
        due(read("t;0911,1012"), 0, "rounds", 1, 2, 0);
        due(read("t;2911,9912"), 1, "rounds", 1, HIGH, 0);
        due(read("t;3011,9912"), 0, "rounds", 1, HIGH, 0);
        due(read("t;0011,9912"), 1, "rounds", 1, 0, 0);
    }

    private static void image() {
        says(TERMS, "An IMAGE keeps KEYS, VALUES, HEIGHTS, HEAT, the second ROW, how many ASKED, all LOOKS of these, "
            + "changes, SEEN.");
        LaneRow x = read(FIVE);
        x.ask(20);
        x.ask(40);
        x.split(40);
        x.put(25, 2, 2);
        x.see(1, 20, 4);
        String kept = reveal(copyOfKept());
        x.image();
        x.put(5, 0, 1);
        x.remove(10);
        x.put(30, 9, 1);
        x.ask(20);
        x.ask(99);
        x.join();
        x.put(40, 0, 4);
        x.ask(40);
        x.forget();
        x.see(0, 0, 9);
        due(x, 2, "restore");
        dueKeys(x, 0, 10, 20, 25, 30);
        dueKeys(x, 1, 1, 3, 2, 5);
        dueKeys(x, 2, 2, 1, 2, 4);
        dueKeys(x, 3, 0, 1, 0, 0);
        due(x, 2, "count", 5);
        due(x, 2, "count", 6);
        due(x, 7, "count", 7);
        due(x, 2, "count", 8);
        due(x, 1, "count", 9);
        dueSame("what there is", reveal(x), kept);
        LaneRow y = read(FIVE);
        y.image();
        y.best(18, 0);
        y.letter(65);
        y.restore();
        due(y, 1, "count", 12);
        due(y, 1, "count", 10);
    }

    private static LaneRow copyOfKept() {
        LaneRow x = read(FIVE);
        x.ask(20);
        x.ask(40);
        x.split(40);
        x.put(25, 2, 2);
        x.see(1, 20, 4);
        x.image();
        return x;
    }

    private static void refusals() {
        says(TERMS, "Refusals, of several the first as told by each call: UNKNOWN (a number names nothing), "
            + "OUTSIDE (it is not as told), STATE (as told), FULL; they change nothing.");
        for (Make make : new Make[] {LaneRow::new, Check::rich}) {
            refused(make, OUTSIDE, "tape", 51);
            refused(make, OUTSIDE, "as", 5);
            refused(make, UNKNOWN, "key", 8, 24);
            refused(make, UNKNOWN, "lane", 4, 4);
            refused(make, OUTSIDE, "find", 100, 0);
            refused(make, OUTSIDE, "find", 0, 4);
            refused(make, UNKNOWN, "nth", 8, 3);
            refused(make, OUTSIDE, "sum", 1, 0);
            refused(make, UNKNOWN, "finger", 8, 100, 2);
            refused(make, OUTSIDE, "ask", 100);
            refused(make, OUTSIDE, "put", 100, 0, 1);
            refused(make, OUTSIDE, "put", 0, 10, 1);
            refused(make, OUTSIDE, "put", 0, 0, 5);
            refused(make, OUTSIDE, "remove", 100);
            refused(make, OUTSIDE, "split", 100);
            refused(make, OUTSIDE, "best", 19, 0);
            refused(make, OUTSIDE, "best", 18, 2);
            refused(make, OUTSIDE, "change", 3);
            refused(make, UNKNOWN, "see", 8, 100, 100);
            refused(make, OUTSIDE, "rounds", 61, 0, 0);
            refused(make, OUTSIDE, "rounds", 1, -1, 0);
            refused(make, OUTSIDE, "rounds", 1, 0, 3);
        }
        refused(TermsTest::packed, OUTSIDE, "letter", 127);
        refused(TermsTest::packed, OUTSIDE, "put", 1, 10, 1);
        refused(TermsTest::packed, OUTSIDE, "put", 1, 9, 5);
        refused(TermsTest::packed, UNKNOWN, "see", 8, 0, 0);
        refused(TermsTest::packed, OUTSIDE, "see", 0, 100, 0);
        refused(TermsTest::packed, OUTSIDE, "see", 0, 0, 100);
        refused(TermsTest::packed, OUTSIDE, "best", 0, 0);
        refused(TermsTest::packed, OUTSIDE, "ask", -1);
    }

    /** All is full: THE PAGE, THE ROW, HEAT of KEY 0, and what is SEEN. */
    private static LaneRow packed() {
        LaneRow x = read(EIGHT);
        asked(x, 0, 99);
        for (int i = 0; i < 6; i++) {
            x.see(i, i, i);
        }
        for (int i = 0; i < 44; i++) {
            x.letter(65);
        }
        x.image();
        return x;
    }
}
