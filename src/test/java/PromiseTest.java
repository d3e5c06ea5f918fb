/** For each promise of the document: ordinary inputs, its edges, and wrong inputs, worked out by hand. */
public final class PromiseTest {
    private static final int NONE = -1, UNKNOWN = -101, OUTSIDE = -102, STATE = -103, FULL = -104;
    private static final int LOW = Integer.MIN_VALUE, HIGH = Integer.MAX_VALUE;

    // KEYS 10, 20, 30, 40, 50; VALUES 1, 3, 5, 7, 9; HEIGHTS 2, 1, 4, 2, 1.
    private static final String FIVE = "t;1012,2031,3054,4072,5091";

    private static int wrong = 0;
    private static int right = 0;
    private static int promise = 0;

    private static void due(String call, long got, long want) {
        if (got == want) {
            right++;
        } else {
            wrong++;
            System.out.println("promise " + promise + ": " + call + " answered " + got + ", due is " + want);
        }
    }

    private static LaneRow page(LaneRow x, String text) {
        x.blank();
        for (int i = 0; i < text.length(); i++) {
            x.letter(text.charAt(i));
        }
        return x;
    }

    private static LaneRow read(String text) {
        LaneRow x = page(new LaneRow(), text);
        due("row() of " + text, x.row(), (text.length() + 1) / (text.charAt(0) == 't' ? 5 : 4));
        return x;
    }

    private static String text(LaneRow x) {
        StringBuilder s = new StringBuilder();
        for (int place = 0; place <= 50 && x.tape(place) >= 0; place++) {
            s.append((char) x.tape(place));
        }
        return s.toString();
    }

    private static void dueText(LaneRow x, String want) {
        String got = text(x);
        if (got.equals(want)) {
            right++;
        } else {
            wrong++;
            System.out.println("promise " + promise + ": the tape is " + got + ", due is " + want);
        }
    }

    private static void dueFault(String text, int want) {
        due("fault() of " + text, page(new LaneRow(), text).fault(), want);
    }

    private static void dueHeights(LaneRow x, int... want) {
        for (int i = 0; i < want.length; i++) {
            due("key(" + i + ", 2)", x.key(i, 2), want[i]);
        }
    }

    private static void asks(LaneRow x, int key, int times) {
        for (int i = 0; i < times; i++) {
            x.ask(key);
        }
    }

    public static void main(String[] args) {
        newObject();
        letterAndBlank();
        fault();
        row();
        tape();
        as();
        key();
        keySeen();
        lane();
        find();
        nth();
        sum();
        finger();
        ask();
        put();
        remove();
        split();
        join();
        cost();
        best();
        change();
        see();
        forget();
        rounds();
        imageAndRestore();
        count();
        digest();
        refusalsChangeNothing();
        System.out.println(right + " answers as due, " + wrong + " not");
        if (wrong != 0) {
            System.exit(1);
        }
    }

    private static void newObject() {
        promise = 1;
        due("NONE", LaneRow.NONE, NONE);
        due("UNKNOWN", LaneRow.UNKNOWN, UNKNOWN);
        due("OUTSIDE", LaneRow.OUTSIDE, OUTSIDE);
        due("STATE", LaneRow.STATE, STATE);
        due("FULL", LaneRow.FULL, FULL);
        LaneRow x = new LaneRow();
        for (int what = 0; what <= 12; what++) {
            due("count(" + what + ")", x.count(what), 0);
        }
        due("blank()", x.blank(), 0);
        due("fault()", x.fault(), 0);
        due("row()", x.row(), STATE);
        due("tape(0)", x.tape(0), STATE);
        due("as(0)", x.as(0), STATE);
        due("key(0, 0)", x.key(0, 0), UNKNOWN);
        due("key(0, 99)", x.key(0, 99), UNKNOWN);
        due("find(0, 0)", x.find(0, 0), STATE);
        due("nth(0, 0)", x.nth(0, 0), UNKNOWN);
        due("sum(0, 99)", x.sum(0, 99), STATE);
        due("finger(0, 0, 0)", x.finger(0, 0, 0), UNKNOWN);
        due("ask(0)", x.ask(0), STATE);
        due("put(0, 0, 1)", x.put(0, 0, 1), STATE);
        due("remove(0)", x.remove(0), STATE);
        due("split(0)", x.split(0), STATE);
        due("join()", x.join(), STATE);
        due("cost()", x.cost(), STATE);
        due("best(1, 0)", x.best(1, 0), STATE);
        due("change(0)", x.change(0), STATE);
        due("see(0, 0, 0)", x.see(0, 0, 0), UNKNOWN);
        due("forget()", x.forget(), 0);
        due("rounds(1, 0, 0)", x.rounds(1, 0, 0), STATE);
        due("image()", x.image(), STATE);
        due("restore()", x.restore(), STATE);
        due("find(100, 0)", x.find(100, 0), OUTSIDE);
        due("best(0, 0)", x.best(0, 0), OUTSIDE);
        due("change(3)", x.change(3), OUTSIDE);
        due("put(0, 0, 5)", x.put(0, 0, 5), OUTSIDE);
    }

    private static void letterAndBlank() {
        promise = 2;
        LaneRow x = new LaneRow();
        due("letter(0)", x.letter(0), OUTSIDE);
        due("letter(127)", x.letter(127), OUTSIDE);
        due("letter(-1)", x.letter(-1), OUTSIDE);
        due("letter(LOW)", x.letter(LOW), OUTSIDE);
        due("letter(HIGH)", x.letter(HIGH), OUTSIDE);
        due("letter(1)", x.letter(1), 1);
        due("letter(126)", x.letter(126), 2);
        for (int i = 3; i <= 44; i++) {
            due("letter(65)", x.letter(65), i);
        }
        due("letter(65)", x.letter(65), FULL);
        due("letter(0) on a full page", x.letter(0), OUTSIDE);
        due("count(10)", x.count(10), 44);
        promise = 3;
        due("blank()", x.blank(), 44);
        due("blank()", x.blank(), 0);
        due("count(10)", x.count(10), 0);
        due("letter(116)", x.letter(116), 1);
        due("blank()", x.blank(), 1);
        page(x, FIVE);
        x.row();
        x.letter(65);
        due("blank()", x.blank(), 1);
        due("count(0) behind blank()", x.count(0), 5);
    }

    private static void fault() {
        promise = 4;
        dueFault("", 0);
        dueFault("x", 0);
        dueFault("T;", 0);
        for (String law : new String[] {"t", "h", "s", "e", "d"}) {
            dueFault(law, 1);
            dueFault(law + ",", 1);
            dueFault(law + ";", 2);
            dueFault(law + ";1", 3);
            dueFault(law + ";;", 2);
            dueFault(law + ";1;", 3);
            dueFault(law + ";10,", 4);
            dueFault(law + ";000", 5);
        }
        dueFault("t;1000", 5);
        dueFault("t;1005", 5);
        dueFault("t;1001", 6);
        dueFault("t;1004", 6);
        dueFault("t;10011", 6);
        dueFault("t;1001,", 7);
        dueFault("t;1001,0", 8);
        dueFault("t;1001,09", 8);
        dueFault("t;1001,10", 8);
        dueFault("t;1001,11", 9);
        dueFault("t;1001,1111", 11);
        dueFault("h;1001", 5);
        dueFault("h;100,", 6);
        dueFault("h;100,100", 7);
        dueFault("h;100,110", 9);
        dueFault("h;990,990", 7);
        dueFault("h;990,", 6);
        dueFault("h;000,010,020,030,040,050,060,070", 33);
        dueFault("h;000,010,020,030,040,050,060,070,", 33);
        dueFault("t;0001,0101,0201,0301,0401,0501,0601,0701", 41);
        dueFault("t;0001,0101,0201,0301,0401,0501,0601,0701,", 41);
        dueFault("h;100,110,105", 11);
        dueFault("h;/00", 2);
        dueFault("h;:00", 2);
        dueFault("h;0/0", 3);
        dueFault("h;00:", 4);
        LaneRow x = read(FIVE);
        due("fault() behind row()", x.fault(), 0);
    }

    private static void row() {
        promise = 5;
        for (String none : new String[] {"", "t", "t;", "t;1011", "t;1011,", "t;1011,2", "t;1011,20",
                "t;1011,201", "t;1011,2011,", "h;100", "h;100,11", "h;100,1001", "h;110,100",
                "h;000,010,020,030,040,050,060,070,", "h;000,010,020,030,040,050,060,070,080"}) {
            LaneRow x = page(new LaneRow(), none);
            due("row() of " + none, x.row(), STATE);
            due("the page behind it", x.count(10), none.length());
            due("count(11)", x.count(11), 0);
        }
        LaneRow x = read(FIVE);
        due("the page is empty", x.count(10), 0);
        due("count(11)", x.count(11), 1);
        due("KEYS", x.count(0), 5);
        x.ask(30);
        x.see(0, 1, 1);
        x.put(60, 1, 1);
        x.split(40);
        x.best(18, 0);
        x.image();
        page(x, "e;111,222");
        due("row() again", x.row(), 2);
        for (int what : new int[] {4, 5, 6, 7, 8, 9, 10}) {
            due("count(" + what + ") in a new ROW", x.count(what), 0);
        }
        due("count(11)", x.count(11), 2);
        due("count(12)", x.count(12), 1);
        due("restore()", x.restore(), STATE);
        due("join()", x.join(), STATE);
        due("key(0, 3)", x.key(0, 3), 0);
        dueText(x, "e;111,222");
        page(x, "e;111");
        due("row() of none", x.row(), STATE);
        dueText(x, "e;111,222");
        due("two KEYS", read("t;0001,9994").count(0), 2);
        due("eight KEYS", read("t;0001,0101,0201,0301,0401,0501,0601,9901").count(0), 8);
    }

    private static void tape() {
        promise = 6;
        for (String s : new String[] {FIVE, "h;009,071,992", "s;103,205", "e;000,010,020,030,040,050,060,070",
                "d;023,055,083,264,275", "t;0001,0102,0203,0304,0401,0502,0603,9994"}) {
            dueText(read(s), s);
        }
        LaneRow x = read(FIVE);
        due("tape(25)", x.tape(25), '1');
        due("tape(26)", x.tape(26), NONE);
        due("tape(50)", x.tape(50), NONE);
        due("tape(51)", x.tape(51), OUTSIDE);
        due("tape(-1)", x.tape(-1), OUTSIDE);
        due("tape(LOW)", x.tape(LOW), OUTSIDE);
        due("tape(51) without a ROW", new LaneRow().tape(51), OUTSIDE);
        x.put(25, 8, 3);
        dueText(x, "t;1012,2031,2583,3054,4072,5091");
        x.put(25, 0, 1);
        x.remove(10);
        x.split(40);
        dueText(x, "t;2031,2501,3054");
        x.join();
        dueText(x, "t;2031,2501,3054,4072,5091");
        String now = text(x);
        page(x, now);
        due("row() of its own tape", x.row(), 5);
        dueText(x, now);
    }

    private static void as() {
        promise = 7;
        int[][] want = {{1, NONE, NONE, NONE, NONE}, {1, 1, NONE, NONE, NONE}, {1, NONE, 1, NONE, NONE},
            {1, NONE, NONE, 1, NONE}, {1, 1, NONE, NONE, 1}};
        String[] rows = {"t;1011,2011", "h;101,201", "s;101,201", "e;101,201", "d;101,201"};
        for (int i = 0; i < rows.length; i++) {
            LaneRow x = read(rows[i]);
            for (int kind = 0; kind <= 4; kind++) {
                due("as(" + kind + ") of " + rows[i], x.as(kind), want[i][kind]);
            }
            due("as(5)", x.as(5), OUTSIDE);
            due("as(-1)", x.as(-1), OUTSIDE);
        }
        due("as(5) without a ROW", new LaneRow().as(5), OUTSIDE);
    }

    private static void key() {
        promise = 8;
        LaneRow x = read(FIVE);
        asks(x, 20, 3);
        int[][] want = {
            {0, 10, 20, 30, 40, 50}, {1, 1, 3, 5, 7, 9}, {2, 2, 1, 4, 2, 1}, {3, 0, 3, 0, 0, 0},
            {4, 3, 5, 1, 2, 3}, {5, 1, 0, 3, 1, 0}, {6, 15, 15, 15, 15, 15},
            {10, 1, 1, 1, 1, NONE}, {11, 2, NONE, 1, NONE, NONE}, {12, NONE, NONE, NONE, NONE, NONE},
            {13, NONE, NONE, NONE, NONE, NONE},
            {20, 3, 5, 7, 9, NONE}, {21, 8, NONE, 7, NONE, NONE}, {22, NONE, NONE, NONE, NONE, NONE},
            {23, NONE, NONE, NONE, NONE, NONE}};
        for (int[] line : want) {
            for (int number = 0; number < 5; number++) {
                due("key(" + number + ", " + line[0] + ")", x.key(number, line[0]), line[number + 1]);
            }
        }
        LaneRow high = read("t;1014,2021,3034");
        due("key(0, 13)", high.key(0, 13), 2);
        due("key(0, 12)", high.key(0, 12), 2);
        due("key(0, 23)", high.key(0, 23), 5);
        due("key(0, 20)", high.key(0, 20), 2);
        due("key(1, 23)", high.key(1, 23), NONE);
        for (int what : new int[] {-1, 8, 9, 14, 19, 24, LOW, HIGH}) {
            due("key(0, " + what + ")", x.key(0, what), OUTSIDE);
            due("key(5, " + what + ")", x.key(5, what), UNKNOWN);
        }
        due("key(-1, 0)", x.key(-1, 0), UNKNOWN);
        due("key(5, 0)", x.key(5, 0), UNKNOWN);
        due("key(HIGH, 0)", x.key(HIGH, 0), UNKNOWN);
        due("key(LOW, 0)", x.key(LOW, 0), UNKNOWN);
        dueHeights(read("h;001,011,031,071,150,631,951,991"), 1, 2, 3, 4, 4, 4, 4, 3);
        dueHeights(read("d;001,021,051,081,261,531,801,991"), 1, 2, 2, 3, 4, 4, 4, 1);
        dueHeights(read("s;001,031,041,101,191,391,701,991"), 1, 4, 1, 2, 3, 1, 4, 3);
        dueHeights(read("e;001,031,041,191,391,401,501,991"), 1, 2, 1, 3, 1, 2, 1, 4);
    }

    /** What is SEEN narrows HEIGHTS and TRY. */
    private static void keySeen() {
        promise = 8;
        // KEY 20 of HEIGHT 1, 2, 3, 4 makes LOOKS FOR it 5, 4, 2, 1; FOR 0 4, 4, 4, 4; FOR 10 3, 3, 3, 3.
        LaneRow x = read(FIVE);
        due("key(1, 7)", x.key(1, 7), 20);
        due("see(1, 20, 4)", x.see(1, 20, 4), 1);
        due("key(1, 6)", x.key(1, 6), 2);
        due("key(1, 7), one left", x.key(1, 7), 0);
        due("key(0, 6), nothing SEEN of it", x.key(0, 6), 15);
        due("see(1, 20, 5)", x.see(1, 20, 5), 2);
        due("key(1, 6)", x.key(1, 6), 0);
        due("key(1, 7)", x.key(1, 7), NONE);
        x.forget();
        due("key(1, 6)", x.key(1, 6), 15);
        x.see(1, 0, 4);
        due("key(1, 6), it tells nothing", x.key(1, 6), 15);
        x.see(1, 20, 1);
        due("key(1, 6)", x.key(1, 6), 8);
        // What is SEEN is SEEN of the KEY, whatever its number becomes.
        x.put(5, 0, 1);
        due("key(1, 6)", x.key(1, 6), 15);
        due("key(2, 6)", x.key(2, 6), 8);
        x.remove(5);
        due("key(1, 6)", x.key(1, 6), 8);
        // KEY 20 of HEIGHT 1, 2, 3, 4 makes LOOKS FOR it 2, 1, 1, 1; FOR 0 1, 2, 3, 4.
        LaneRow y = read("t;1011,2011");
        due("LOOKS FOR 20", y.find(20, 1), 2);
        y.see(1, 20, 1);
        due("key(1, 6)", y.key(1, 6), 14);
        due("key(1, 7)", y.key(1, 7), 0);
        y.see(1, 0, 3);
        due("key(1, 6)", y.key(1, 6), 4);
    }

    private static void lane() {
        promise = 9;
        LaneRow x = read(FIVE);
        int[][] want = {{5, 1, 1, 1}, {3, 1, 1, 2}, {1, 3, 9, 3}, {1, 3, 9, 3}};
        for (int lane = 0; lane <= 3; lane++) {
            for (int what = 0; what <= 3; what++) {
                due("lane(" + lane + ", " + what + ")", x.lane(lane, what), want[lane][what]);
            }
        }
        LaneRow low = read("t;1012,2031");
        due("lane(2, 0)", low.lane(2, 0), 0);
        due("lane(2, 1)", low.lane(2, 1), NONE);
        due("lane(2, 2)", low.lane(2, 2), NONE);
        due("lane(2, 3)", low.lane(2, 3), NONE);
        due("lane(1, 3)", low.lane(1, 3), 1);
        due("lane(4, 0)", x.lane(4, 0), UNKNOWN);
        due("lane(-1, 0)", x.lane(-1, 0), UNKNOWN);
        due("lane(4, 4)", x.lane(4, 4), UNKNOWN);
        due("lane(0, 4)", x.lane(0, 4), OUTSIDE);
        due("lane(0, -1)", x.lane(0, -1), OUTSIDE);
        due("lane(0, HIGH)", x.lane(0, HIGH), OUTSIDE);
        due("lane(0, 0) without a ROW", new LaneRow().lane(0, 0), UNKNOWN);
        due("lane(0, 4) without a ROW", new LaneRow().lane(0, 4), UNKNOWN);
        due("lane(4, 0) without a ROW", new LaneRow().lane(4, 0), UNKNOWN);
    }

    private static void find() {
        promise = 10;
        LaneRow x = read(FIVE);
        int[][] want = {{10, 0, 3, 1, 1}, {20, 1, 5, 0, 3}, {30, 2, 1, 3, 5}, {40, 3, 2, 1, 7}, {50, 4, 3, 0, 9},
            {35, NONE, 3, NONE, NONE}, {5, NONE, 4, NONE, NONE}, {99, NONE, 3, NONE, NONE},
            {0, NONE, 4, NONE, NONE}, {15, NONE, 5, NONE, NONE}, {45, NONE, 3, NONE, NONE}};
        for (int[] line : want) {
            for (int what = 0; what <= 3; what++) {
                due("find(" + line[0] + ", " + what + ")", x.find(line[0], what), line[what + 1]);
            }
        }
        for (int key : new int[] {-1, 100, LOW, HIGH}) {
            due("find(" + key + ", 0)", x.find(key, 0), OUTSIDE);
        }
        due("find(0, 4)", x.find(0, 4), OUTSIDE);
        due("find(0, -1)", x.find(0, -1), OUTSIDE);
        due("find() asks nothing", x.count(6), 0);
        due("find() heats nothing", x.count(4), 0);
    }

    private static void nth() {
        promise = 11;
        LaneRow x = read(FIVE);
        int[][] want = {{10, 3, 1}, {20, 5, 0}, {30, 1, 3}, {40, 2, 1}, {50, 3, 0}};
        for (int number = 0; number < 5; number++) {
            for (int what = 0; what <= 2; what++) {
                due("nth(" + number + ", " + what + ")", x.nth(number, what), want[number][what]);
            }
        }
        due("nth(5, 0)", x.nth(5, 0), UNKNOWN);
        due("nth(-1, 3)", x.nth(-1, 3), UNKNOWN);
        due("nth(0, 3)", x.nth(0, 3), OUTSIDE);
        due("nth(0, -1)", x.nth(0, -1), OUTSIDE);
    }

    private static void sum() {
        promise = 12;
        LaneRow x = read(FIVE);
        due("sum(0, 99)", x.sum(0, 99), 25);
        due("sum(10, 50)", x.sum(10, 50), 25);
        due("sum(11, 49)", x.sum(11, 49), 15);
        due("sum(20, 20)", x.sum(20, 20), 3);
        due("sum(21, 29)", x.sum(21, 29), 0);
        due("sum(0, 0)", x.sum(0, 0), 0);
        due("sum(99, 99)", x.sum(99, 99), 0);
        due("sum(20, 19)", x.sum(20, 19), OUTSIDE);
        due("sum(-1, 10)", x.sum(-1, 10), OUTSIDE);
        due("sum(0, 100)", x.sum(0, 100), OUTSIDE);
        due("sum(100, 100)", x.sum(100, 100), OUTSIDE);
        due("sum(LOW, HIGH)", x.sum(LOW, HIGH), OUTSIDE);
        due("sum(1, 0) without a ROW", new LaneRow().sum(1, 0), OUTSIDE);
    }

    private static void finger() {
        promise = 13;
        LaneRow x = read(FIVE);
        int[][] want = {{0, 50, 4, 3}, {1, 50, 4, 3}, {0, 25, NONE, 3}, {2, 30, 2, 0}, {0, 20, 1, 2}, {0, 30, 2, 1},
            {2, 50, 4, 2}, {3, 50, 4, 1}, {4, 99, NONE, 0}, {4, 50, 4, 0}, {1, 30, 2, 1}, {1, 35, NONE, 3},
            {0, 10, 0, 0}, {1, 20, 1, 0}, {0, 99, NONE, 3}};
        for (int[] line : want) {
            due("finger(" + line[0] + ", " + line[1] + ", 0)", x.finger(line[0], line[1], 0), line[2]);
            due("finger(" + line[0] + ", " + line[1] + ", 1)", x.finger(line[0], line[1], 1), line[3]);
        }
        // Behind the step from 10 to 30 one climbs to LANE 3 and goes to 50 at once.
        LaneRow up = read("t;1011,3014,4011,4511,5014");
        due("finger(0, 50, 1)", up.finger(0, 50, 1), 2);
        due("finger(5, 99, 0)", x.finger(5, 99, 0), UNKNOWN);
        due("finger(-1, 99, 0)", x.finger(-1, 99, 0), UNKNOWN);
        due("finger(5, 100, 2)", x.finger(5, 100, 2), UNKNOWN);
        due("finger(1, 19, 0)", x.finger(1, 19, 0), OUTSIDE);
        due("finger(1, 100, 0)", x.finger(1, 100, 0), OUTSIDE);
        due("finger(1, 20, 2)", x.finger(1, 20, 2), OUTSIDE);
        due("finger(1, 20, -1)", x.finger(1, 20, -1), OUTSIDE);
    }

    private static void ask() {
        promise = 14;
        LaneRow x = read(FIVE);
        due("ask(20)", x.ask(20), 3);
        due("key(1, 3)", x.key(1, 3), 1);
        due("ask(35)", x.ask(35), NONE);
        due("count(4)", x.count(4), 1);
        due("count(6)", x.count(6), 2);
        due("count(7)", x.count(7), 8);
        due("ask(-1)", x.ask(-1), OUTSIDE);
        due("ask(100)", x.ask(100), OUTSIDE);
        due("ask(100) without a ROW", new LaneRow().ask(100), OUTSIDE);
        asks(x, 20, 97);
        due("ask(20), the 99th", x.ask(20), 3);
        due("ask(20), the 100th", x.ask(20), FULL);
        due("key(1, 3)", x.key(1, 3), 99);
        due("count(6)", x.count(6), 100);
        due("count(7)", x.count(7), 498);
        due("ask(30)", x.ask(30), 5);
        asks(x, 0, 100);
        due("ask(0), however often", x.ask(0), NONE);
    }

    private static void put() {
        promise = 15;
        LaneRow x = read(FIVE);
        asks(x, 20, 2);
        due("put(20, 8, 3)", x.put(20, 8, 3), 1);
        due("VALUE", x.key(1, 1), 8);
        due("HEIGHT", x.key(1, 2), 3);
        due("HEAT stays", x.key(1, 3), 2);
        due("KEYS", x.count(0), 5);
        due("put(0, 0, 1)", x.put(0, 0, 1), 0);
        due("put(99, 9, 4)", x.put(99, 9, 4), 6);
        due("put(25, 1, 1)", x.put(25, 1, 1), 3);
        due("HEAT of a new KEY", x.key(3, 3), 0);
        due("HEAT went along", x.key(2, 3), 2);
        due("changes", x.count(8), 4);
        due("put(26, 1, 1), the ninth", x.put(26, 1, 1), FULL);
        due("put(25, 2, 2), it is there", x.put(25, 2, 2), 3);
        dueText(x, "t;0001,1012,2083,2522,3054,4072,5091,9994");
        x.remove(20);
        x.put(20, 1, 1);
        due("HEAT of a KEY that came again", x.key(2, 3), 0);
        int[][] wrongOnes = {{-1, 0, 1}, {100, 0, 1}, {0, -1, 1}, {0, 10, 1}, {0, 0, 0}, {0, 0, 5}, {LOW, LOW, LOW}};
        for (int[] w : wrongOnes) {
            due("put(" + w[0] + ", " + w[1] + ", " + w[2] + ")", x.put(w[0], w[1], w[2]), OUTSIDE);
        }
        LaneRow h = read("h;001,071");
        due("put(0, 5, 4) by HALVES", h.put(0, 5, 4), 0);
        due("put(3, 5, 1)", h.put(3, 5, 1), 1);
        dueHeights(h, 1, 3, 4);
        due("put(0, 0, 5) by HALVES", h.put(0, 0, 5), OUTSIDE);
        due("put(0, 0, 0) by HALVES", h.put(0, 0, 0), OUTSIDE);
        LaneRow e = read("e;101,201,301");
        due("put(5, 0, 1) by EVEN", e.put(5, 0, 1), 0);
        dueHeights(e, 1, 2, 1, 3);
    }

    private static void remove() {
        promise = 16;
        LaneRow x = read(FIVE);
        asks(x, 30, 2);
        due("remove(20)", x.remove(20), 3);
        due("KEYS", x.count(0), 4);
        due("HEAT went along", x.key(1, 3), 2);
        due("remove(20)", x.remove(20), STATE);
        due("remove(50)", x.remove(50), 9);
        due("remove(10)", x.remove(10), 1);
        due("remove(30), but 2", x.remove(30), STATE);
        due("changes", x.count(8), 3);
        dueText(x, "t;3054,4072");
        due("remove(100)", x.remove(100), OUTSIDE);
        due("remove(-1)", x.remove(-1), OUTSIDE);
        due("remove(-1) without a ROW", new LaneRow().remove(-1), OUTSIDE);
        LaneRow e = read("e;101,201,301,401");
        e.remove(10);
        dueHeights(e, 1, 2, 1);
    }

    private static void split() {
        promise = 17;
        LaneRow x = read(FIVE);
        due("split(20), one would stay", x.split(20), STATE);
        due("split(0)", x.split(0), STATE);
        due("split(51), none would go", x.split(51), STATE);
        due("split(100)", x.split(100), OUTSIDE);
        due("split(-1)", x.split(-1), OUTSIDE);
        due("split(30)", x.split(30), 3);
        due("KEYS", x.count(0), 2);
        due("KEYS of the second ROW", x.count(5), 3);
        due("changes", x.count(8), 1);
        due("find(30, 0)", x.find(30, 0), NONE);
        dueText(x, "t;1012,2031");
        x.put(25, 0, 1);
        due("split(25), the second ROW is not empty", x.split(25), STATE);
        LaneRow y = read(FIVE);
        due("split(21)", y.split(21), 3);
        LaneRow z = read(FIVE);
        due("split(50)", z.split(50), 1);
        due("split(30), the second ROW has one", z.split(30), STATE);
        due("split(100) without a ROW", new LaneRow().split(100), OUTSIDE);
    }

    private static void join() {
        promise = 18;
        LaneRow x = read(FIVE);
        asks(x, 40, 3);
        due("join(), it is empty", x.join(), STATE);
        x.split(30);
        due("HEAT of THE ROW", x.count(4), 0);
        due("join()", x.join(), 5);
        dueText(x, FIVE);
        due("HEAT came again", x.key(3, 3), 3);
        due("changes", x.count(8), 2);
        due("the second ROW", x.count(5), 0);
        due("join() again", x.join(), STATE);
        x.split(30);
        x.put(30, 1, 1);
        due("join(), the last one is not less", x.join(), STATE);
        x.remove(30);
        x.put(31, 1, 1);
        due("join(), the last one is greater", x.join(), STATE);
        x.remove(31);
        for (int key = 1; key <= 4; key++) {
            x.put(key, 0, 1);
        }
        due("join(), nine", x.join(), FULL);
        x.put(35, 0, 1);
        due("join(), nine, and out of order", x.join(), STATE);
        x.remove(35);
        x.remove(1);
        due("join(), eight", x.join(), 8);
        LaneRow e = read("e;101,201,301,401,501");
        e.split(30);
        e.remove(10);
        due("remove() of but two", e.count(0), 2);
        e.put(5, 0, 1);
        due("join() by EVEN", e.join(), 6);
        dueHeights(e, 1, 2, 1, 3, 1, 2);
    }

    private static void cost() {
        promise = 19;
        LaneRow x = read(FIVE);
        due("cost()", x.cost(), 0);
        asks(x, 20, 2);
        asks(x, 50, 1);
        asks(x, 35, 4);
        due("cost()", x.cost(), 13);
        x.put(20, 3, 4);
        due("cost() behind a change", x.cost(), 6);
    }

    private static void best() {
        promise = 20;
        LaneRow x = read("t;1011,2011");
        due("best(2, 0), nothing ASKED", x.best(2, 0), 0);
        x.ask(20);
        due("best(1, 0)", x.best(1, 0), NONE);
        due("best(1, 10)", x.best(1, 10), NONE);
        due("best(2, 0)", x.best(2, 0), 2);
        due("best(3, 0)", x.best(3, 0), 1);
        due("best(18, 1)", x.best(18, 1), 3);
        due("best(18, 10)", x.best(18, 10), 1);
        due("best(18, 11)", x.best(18, 11), 2);
        due("best(18, 12)", x.best(18, 12), NONE);
        due("best(18, 15)", x.best(18, 15), NONE);
        int[][] wrongOnes = {{0, 0}, {19, 0}, {-1, 0}, {2, 2}, {2, 9}, {2, 16}, {2, -1}, {LOW, HIGH}};
        for (int[] w : wrongOnes) {
            due("best(" + w[0] + ", " + w[1] + ")", x.best(w[0], w[1]), OUTSIDE);
        }
        due("count(12)", x.count(12), 10);
        due("best(18, 0)", x.best(18, 0), 1);
        due("best(18, 0), the twelfth", x.best(18, 0), 1);
        due("best(18, 0), the 13th", x.best(18, 0), STATE);
        due("best(19, 0)", x.best(19, 0), OUTSIDE);
        due("count(12)", x.count(12), 12);
        // Both ASKED alike: the first found at once, or the second: of like ones KEY 0 is low.
        LaneRow two = read("t;1011,2011");
        two.ask(10);
        two.ask(20);
        due("best(18, 0)", two.best(18, 0), 3);
        due("best(18, 10)", two.best(18, 10), 1);
        due("best(18, 11)", two.best(18, 11), 1);
        LaneRow seven = read("h;001,011,021,031,041,051,061");
        due("best() of 7 KEYS", seven.best(18, 0), STATE);
        seven.remove(6);
        due("best() of 6 KEYS", seven.best(18, 0), 0);
        due("best(5, 0) of 6 KEYS", seven.best(5, 0), NONE);
        due("best(6, 1) of 6 KEYS", seven.best(6, 1), 6);
        due("best(18, 15) of 6 KEYS", seven.best(18, 15), 1);
        // Three in a row, the last ASKED: a tower of 2 alone finds it at once, whatever the LAW.
        LaneRow three = read("h;001,021,041");
        three.ask(4);
        due("best(3, 0)", three.best(3, 0), 3);
        due("best(4, 0)", three.best(4, 0), 1);
        due("best(4, 12)", three.best(4, 12), 2);
        bestOfThreeLanes();
    }

    private static void bestOfThreeLanes() {
        LaneRow x = read("h;001,021,041");
        asks(x, 0, 1);
        asks(x, 2, 2);
        asks(x, 4, 4);
        due("best(18, 0)", x.best(18, 0), 11);
        due("best(18, 1)", x.best(18, 1), 6);
        due("best(5, 0)", x.best(5, 0), 12);
        for (int number = 0; number < 3; number++) {
            due("best(18, 1" + number + ")", x.best(18, 10 + number), number + 1);
        }
        // A fourth LANE would make it 26; of the ways that make 27 the first by numbers is told.
        LaneRow y = read("h;001,021,041,061");
        asks(y, 0, 1);
        asks(y, 2, 2);
        asks(y, 4, 4);
        asks(y, 6, 8);
        due("best(18, 0)", y.best(18, 0), 27);
        due("best(18, 1)", y.best(18, 1), 7);
        int[] heights = {1, 1, 2, 3};
        for (int number = 0; number < 4; number++) {
            due("best(18, 1" + number + ")", y.best(18, 10 + number), heights[number]);
        }
    }

    private static void change() {
        promise = 21;
        LaneRow x = read(FIVE);
        for (int what = 0; what <= 2; what++) {
            due("change(" + what + "), nothing ASKED", x.change(what), NONE);
        }
        asks(x, 20, 1);
        // HEIGHT 4 finds 20 with 1 LOOK; so does no other change.
        due("change(0)", x.change(0), 1);
        due("change(1)", x.change(1), 4);
        due("change(2)", x.change(2), 1);
        due("change(3)", x.change(3), OUTSIDE);
        due("change(-1)", x.change(-1), OUTSIDE);
        dueText(x, FIVE);
        LaneRow two = read("t;1011,2011");
        two.ask(20);
        due("change(0)", two.change(0), 1);
        due("change(1), the least of like ones", two.change(1), 2);
        due("change(2)", two.change(2), 1);
        // KEY 30 under 1 and KEY 10 under 2 both help; the first by numbers is told.
        LaneRow like = read("t;1011,2012,3011");
        like.ask(10);
        due("change(0)", like.change(0), 0);
        due("change(1)", like.change(1), 2);
        due("change(2)", like.change(2), 1);
        LaneRow lower = read("t;1012,2011,3011");
        lower.ask(30);
        due("COST", lower.cost(), 3);
        due("change(0)", lower.change(0), 2);
        due("change(1)", lower.change(1), 3);
    }

    private static void see() {
        promise = 22;
        LaneRow x = read(FIVE);
        due("see(5, 0, 0)", x.see(5, 0, 0), UNKNOWN);
        due("see(-1, -1, -1)", x.see(-1, -1, -1), UNKNOWN);
        due("see(0, -1, 0)", x.see(0, -1, 0), OUTSIDE);
        due("see(0, 100, 0)", x.see(0, 100, 0), OUTSIDE);
        due("see(0, 0, -1)", x.see(0, 0, -1), OUTSIDE);
        due("see(0, 0, 100)", x.see(0, 0, 100), OUTSIDE);
        due("see(0, 0, 0)", x.see(0, 0, 0), 1);
        due("see(4, 99, 99)", x.see(4, 99, 99), 2);
        for (int i = 3; i <= 6; i++) {
            due("see(1, 1, 1)", x.see(1, 1, 1), i);
        }
        due("see(1, 1, 1), the seventh", x.see(1, 1, 1), FULL);
        due("see(1, 100, 1)", x.see(1, 100, 1), OUTSIDE);
        due("count(9)", x.count(9), 6);
        x.remove(20);
        due("SEEN of a KEY that is gone", x.count(9), 6);
    }

    private static void forget() {
        promise = 23;
        LaneRow x = read(FIVE);
        x.see(0, 0, 0);
        x.see(0, 1, 0);
        due("forget()", x.forget(), 2);
        due("forget()", x.forget(), 0);
        due("count(9)", x.count(9), 0);
        due("key(0, 6)", x.key(0, 6), 15);
        due("see()", x.see(0, 10, 3), 1);
        due("key(0, 6)", x.key(0, 6), 2);
    }

    private static void rounds() {
        promise = 24;
        LaneRow x = read(FIVE);
        int[] seeds = {0, 1, 741, 4242, HIGH};
        for (int seed : seeds) {
            long now = seed;
            int found = 0;
            int looks = 0;
            for (int times = 1; times <= 60; times++) {
                now = (1103515245L * now + 12345L) % (1L << 31);
                int key = (int) (now / 65536 % 100);
                found += key % 10 == 0 && key >= 10 && key <= 50 ? 1 : 0;
                looks += x.find(key, 1);
                if (times % 20 == 0 || times == 1) {
                    due("rounds(" + times + ", " + seed + ", 0)", x.rounds(times, seed, 0), found);
                    due("rounds(" + times + ", " + seed + ", 1)", x.rounds(times, seed, 1), looks);
                    due("rounds(" + times + ", " + seed + ", 2)", x.rounds(times, seed, 2), now);
                }
            }
        }
        due("rounds(1, 0, 2)", x.rounds(1, 0, 2), 12345);
        due("rounds(0, 0, 0)", x.rounds(0, 0, 0), OUTSIDE);
        due("rounds(61, 0, 0)", x.rounds(61, 0, 0), OUTSIDE);
        due("rounds(1, -1, 0)", x.rounds(1, -1, 0), OUTSIDE);
        due("rounds(1, 0, 3)", x.rounds(1, 0, 3), OUTSIDE);
        due("rounds(1, 0, -1)", x.rounds(1, 0, -1), OUTSIDE);
        due("rounds(1, LOW, 0)", x.rounds(1, LOW, 0), OUTSIDE);
        due("rounds() asks nothing", x.count(6), 0);
        due("rounds() heats nothing", x.count(4), 0);
    }

    private static void imageAndRestore() {
        promise = 25;
        LaneRow x = read(FIVE);
        due("restore(), none was kept", x.restore(), STATE);
        x.ask(40);
        x.ask(20);
        x.split(40);
        x.see(1, 20, 4);
        long kept = x.digest();
        due("image()", x.image(), 1);
        due("image() changes nothing", x.digest(), kept);
        promise = 26;
        x.ask(10);
        x.ask(11);
        x.put(21, 2, 2);
        x.put(20, 2, 2);
        x.join();
        x.forget();
        due("changes", x.count(8), 4);
        due("restore()", x.restore(), 1);
        due("all is as it was", x.digest(), kept);
        due("the second ROW", x.count(5), 2);
        due("join()", x.join(), 5);
        due("its HEAT", x.key(3, 3), 1);
        dueText(x, FIVE);
        due("restore() again", x.restore(), 1);
        due("all is as it was", x.digest(), kept);
        due("the latest image()", x.image(), 1);
        x.join();
        due("image()", x.image(), 2);
        x.remove(10);
        due("restore()", x.restore(), 2);
        x.best(18, 0);
        x.letter(65);
        x.restore();
        due("how often best() was done stays", x.count(12), 1);
        due("THE PAGE stays", x.count(10), 1);
        page(x, FIVE);
        x.row();
        due("restore(), another ROW since", x.restore(), STATE);
        due("image()", x.image(), 0);
        due("restore()", x.restore(), 0);
        page(x, "t;");
        due("row() of none", x.row(), STATE);
        due("restore()", x.restore(), 0);
    }

    private static void count() {
        promise = 27;
        LaneRow x = read(FIVE);
        x.ask(20);
        x.ask(21);
        x.see(0, 0, 0);
        x.see(0, 0, 1);
        x.see(0, 0, 2);
        x.letter(65);
        x.best(18, 0);
        x.best(19, 0);
        x.put(60, 2, 3);
        x.split(60);
        int[] want = {5, 4, 10, 25, 1, 1, 2, 11, 2, 3, 1, 1, 1};
        for (int what = 0; what <= 12; what++) {
            due("count(" + what + ")", x.count(what), want[what]);
        }
        due("count(13)", x.count(13), OUTSIDE);
        due("count(-1)", x.count(-1), OUTSIDE);
        due("count(LOW)", x.count(LOW), OUTSIDE);
        due("count(13) without a ROW", new LaneRow().count(13), OUTSIDE);
        due("LANES", read("t;1011,2012").count(1), 2);
        due("all VALUES, from KEY 0 to KEY 99", read("t;0041,9952").count(3), 9);
    }

    private static long with(long h, long... numbers) {
        long all = h;
        for (long number : numbers) {
            all = 31 * all + number;
        }
        return all;
    }

    private static void digest() {
        promise = 28;
        long h = 1151;
        for (int what = 0; what <= 12; what++) {
            h = with(h, 0);
        }
        due("digest() without a ROW", new LaneRow().digest(), h);
        LaneRow y = new LaneRow();
        y.letter(65);
        y.letter(66);
        h = with(1151, 65, 66, 0, 0, 0, 0, 0, 0, 0, 0, 0, 0, 2, 0, 0);
        due("digest() of a page", y.digest(), h);
        LaneRow x = read("t;1011,2032");
        x.ask(10);
        x.letter(65);
        h = with(1151, 10, 1, 1, 1, 2, 0, 15, 1, NONE, NONE, NONE, 3, NONE, NONE, NONE);
        h = with(h, 20, 3, 2, 0, 1, 1, 15, NONE, NONE, NONE, NONE, NONE, NONE, NONE, NONE);
        h = with(h, 2, 1, 1, 1, 1, 2, 4, 2, 0, NONE, NONE, NONE, 0, NONE, NONE, NONE);
        h = with(h, 2, 1, 2, 0, 2, 1);
        h = with(h, 't', ';', '1', '0', '1', '1', ',', '2', '0', '3', '2', 'A');
        h = with(h, 2, 2, 3, 4, 1, 0, 1, 2, 0, 0, 1, 1, 0);
        due("digest()", x.digest(), h);
        due("digest() changes nothing", x.digest(), h);
    }

    private static void refusalsChangeNothing() {
        promise = 28;
        LaneRow x = read("t;0001,0102,0203,0304,0401,0502,0603,9994");
        asks(x, 0, 99);
        for (int i = 0; i < 6; i++) {
            x.see(i, i, i);
        }
        for (int i = 0; i < 44; i++) {
            x.letter(65);
        }
        x.image();
        long before = x.digest();
        int[] all = {x.letter(65), x.letter(0), x.row(), x.tape(51), x.as(5), x.key(8, 0), x.key(0, 9), x.lane(4, 0),
            x.find(100, 0), x.nth(8, 0), x.sum(1, 0), x.finger(8, 0, 0), x.ask(0), x.ask(-1), x.put(7, 0, 1),
            x.put(0, 10, 1), x.remove(7), x.remove(-1), x.split(0), x.split(-1), x.join(), x.best(18, 0), x.best(0, 0),
            x.change(3), x.see(0, 0, 0), x.see(8, 0, 0), x.rounds(0, 0, 0), x.count(13)};
        for (int answer : all) {
            due("a refusal", answer <= UNKNOWN ? 1 : 0, 1);
        }
        due("digest() behind refusals", x.digest(), before);
    }
}
