/** Keys in order under towers of lanes; see README.md for how to use it. */
public final class LaneRow {
    public static final int NONE = -1, UNKNOWN = -101, OUTSIDE = -102, STATE = -103, FULL = -104;

    private static final int FEWEST_KEYS = 2;
    private static final int MOST_KEYS = 8;
    private static final int GREATEST_KEY = 99;
    private static final int GREATEST_VALUE = 9;
    private static final int HIGHEST = 4;
    private static final int MOST_HEAT = 99;
    private static final int MOST_LETTERS = 44;
    private static final int LAST_PLACE = 50;
    private static final int MOST_SEEN = 6;
    private static final int MOST_LOOKS_SEEN = 99;
    private static final int MOST_BEST_KEYS = 6;
    private static final int MOST_BEST_LINKS = 18;
    private static final int HIGHEST_OF_BEST = 3;
    private static final int MOST_BESTS = 12;
    private static final int MOST_ROUNDS = 60;
    private static final int LAST_COUNT = 12;

    private final Text page;
    private final Text written;
    private final Kept now;
    private final Kept kept;
    private final Walk walk;
    private final Trial trial;
    private Law law;
    private int rowsRead;
    private int rowOfImage;
    private int bestsDone;

    public LaneRow() {
        page = new Text();
        written = new Text();
        now = new Kept();
        kept = new Kept();
        walk = new Walk();
        trial = new Trial();
    }

    // ---- the row

    public int letter(int code) {
        if (code < 1 || code > 126) {
            return OUTSIDE;
        }
        if (page.size >= MOST_LETTERS) {
            return FULL;
        }
        return page.add(code);
    }

    public int blank() {
        return page.clear();
    }

    public int fault() {
        return page.firstFault();
    }

    public int row() {
        if (page.keysTold() == NONE) {
            return STATE;
        }
        law = Law.bySign(page.codes[0]);
        now.clear();
        page.tellTo(now.first);
        raiseTowers();
        page.clear();
        rowsRead++;
        return now.first.size;
    }

    public int tape(int place) {
        if (place < 0 || place > LAST_PLACE) {
            return OUTSIDE;
        }
        if (law == null) {
            return STATE;
        }
        written.write(law, now.first);
        return place < written.size ? written.codes[place] : NONE;
    }

    public int as(int kind) {
        if (kind < 0 || kind > 4) {
            return OUTSIDE;
        }
        if (law == null) {
            return STATE;
        }
        return isKind(kind) ? 1 : NONE;
    }

    public int key(int number, int what) {
        if (namesNoKey(number)) {
            return UNKNOWN;
        }
        Towers row = now.first;
        switch (what) {
            case 0: return row.keys[number];
            case 1: return row.values[number];
            case 2: return row.heights[number];
            case 3: return row.heats[number];
            case 4: return looksFor(row.keys[number]);
            case 5: return laneOf(row.keys[number]);
            case 6: return trial.heightsLeft(row, now.seen, number);
            case 7: return trial.bestTry(row, now.seen, number);
            case 10: case 11: case 12: case 13: return row.widthFrom(number, what - 10);
            case 20: case 21: case 22: case 23: return row.weightFrom(number, what - 20);
            default: return OUTSIDE;
        }
    }

    public int lane(int lane, int what) {
        if (law == null || lane < 0 || lane >= HIGHEST) {
            return UNKNOWN;
        }
        switch (what) {
            case 0: return now.first.keysInLane(lane);
            case 1: return now.first.widthFrom(NONE, lane);
            case 2: return now.first.weightFrom(NONE, lane);
            case 3: return now.first.greatestWidth(lane);
            default: return OUTSIDE;
        }
    }

    // ---- looks

    public int find(int key, int what) {
        if (isNoKey(key) || what < 0 || what > 3) {
            return OUTSIDE;
        }
        if (law == null) {
            return STATE;
        }
        walk.go(now.first, now.first.heights, NONE, key);
        switch (what) {
            case 0: return walk.number;
            case 1: return walk.looks;
            case 2: return walk.lane;
            default: return valueOf(walk.number);
        }
    }

    public int nth(int number, int what) {
        if (namesNoKey(number)) {
            return UNKNOWN;
        }
        if (what < 0 || what > 2) {
            return OUTSIDE;
        }
        // Numbers rise as KEYS do, so the way by WIDTHS is the way by KEYS.
        int sought = now.first.keys[number];
        switch (what) {
            case 0: return sought;
            case 1: return looksFor(sought);
            default: return laneOf(sought);
        }
    }

    public int sum(int from, int to) {
        if (isNoKey(from) || isNoKey(to) || from > to) {
            return OUTSIDE;
        }
        if (law == null) {
            return STATE;
        }
        return now.first.valuesBetween(from, to);
    }

    public int finger(int finger, int key, int what) {
        if (namesNoKey(finger)) {
            return UNKNOWN;
        }
        if (key < now.first.keys[finger] || key > GREATEST_KEY || what < 0 || what > 1) {
            return OUTSIDE;
        }
        walk.go(now.first, now.first.heights, finger, key);
        return what == 0 ? walk.number : walk.looks;
    }

    public int ask(int key) {
        if (isNoKey(key)) {
            return OUTSIDE;
        }
        if (law == null) {
            return STATE;
        }
        walk.go(now.first, now.first.heights, NONE, key);
        int found = walk.number;
        if (found >= 0 && now.first.heats[found] >= MOST_HEAT) {
            return FULL;
        }
        now.asked++;
        now.looksOfAsked += walk.looks;
        if (found >= 0) {
            now.first.heats[found]++;
        }
        return valueOf(found);
    }

    // ---- what is changed

    public int put(int key, int value, int height) {
        if (isNoKey(key) || value < 0 || value > GREATEST_VALUE || height < 1 || height > HIGHEST) {
            return OUTSIDE;
        }
        if (law == null) {
            return STATE;
        }
        Towers row = now.first;
        int number = row.firstNotLess(key);
        boolean isThere = number < row.size && row.keys[number] == key;
        if (!isThere && row.size >= MOST_KEYS) {
            return FULL;
        }
        if (isThere) {
            row.values[number] = value;
            row.heights[number] = height;
        } else {
            row.insert(number, key, value, height);
        }
        changeIsMade();
        return number;
    }

    public int remove(int key) {
        if (isNoKey(key)) {
            return OUTSIDE;
        }
        Towers row = now.first;
        int number = row.numberOf(key);
        if (law == null || number == NONE || row.size <= FEWEST_KEYS) {
            return STATE;
        }
        int value = row.values[number];
        row.takeOut(number);
        changeIsMade();
        return value;
    }

    public int split(int key) {
        if (isNoKey(key)) {
            return OUTSIDE;
        }
        Towers row = now.first;
        int stay = row.firstNotLess(key);
        if (law == null || now.second.size > 0 || stay < FEWEST_KEYS || stay >= row.size) {
            return STATE;
        }
        now.second.append(row, stay);
        row.size = stay;
        changeIsMade();
        return now.second.size;
    }

    public int join() {
        Towers row = now.first;
        Towers second = now.second;
        if (law == null || second.size == 0 || second.keys[0] <= row.lastKey()) {
            return STATE;
        }
        if (row.size + second.size > MOST_KEYS) {
            return FULL;
        }
        row.append(second, 0);
        second.size = 0;
        changeIsMade();
        return row.size;
    }

    // ---- what would be

    public int cost() {
        if (law == null) {
            return STATE;
        }
        return trial.costOf(now.first, now.first.heights);
    }

    public int best(int links, int what) {
        boolean isHeight = what >= 10 && what <= 15;
        if (links < 1 || links > MOST_BEST_LINKS || !(what == 0 || what == 1 || isHeight)) {
            return OUTSIDE;
        }
        if (law == null || now.first.size > MOST_BEST_KEYS || bestsDone >= MOST_BESTS) {
            return STATE;
        }
        bestsDone++;
        trial.seekBest(now.first, links);
        if (trial.least == NONE) {
            return NONE;
        }
        switch (what) {
            case 0: return trial.least;
            case 1: return trial.bestLinks;
            default: return trial.bestHeight(now.first, what - 10);
        }
    }

    public int change(int what) {
        if (what < 0 || what > 2) {
            return OUTSIDE;
        }
        if (law == null) {
            return STATE;
        }
        trial.seekChange(now.first);
        switch (what) {
            case 0: return trial.changeNumber;
            case 1: return trial.changeHeight;
            default: return trial.least;
        }
    }

    // ---- what is seen

    public int see(int number, int key, int looks) {
        if (namesNoKey(number)) {
            return UNKNOWN;
        }
        if (isNoKey(key) || looks < 0 || looks > MOST_LOOKS_SEEN) {
            return OUTSIDE;
        }
        if (now.seen.size >= MOST_SEEN) {
            return FULL;
        }
        return now.seen.add(now.first.keys[number], key, looks);
    }

    public int forget() {
        return now.seen.clear();
    }

    public int rounds(int times, int seed, int what) {
        if (times < 1 || times > MOST_ROUNDS || seed < 0 || what < 0 || what > 2) {
            return OUTSIDE;
        }
        if (law == null) {
            return STATE;
        }
        int latest = seed;
        int found = 0;
        int looks = 0;
        for (int time = 0; time < times; time++) {
            latest = seedBehind(latest);
            walk.go(now.first, now.first.heights, NONE, latest / 65536 % (GREATEST_KEY + 1));
            found += walk.number == NONE ? 0 : 1;
            looks += walk.looks;
        }
        switch (what) {
            case 0: return found;
            case 1: return looks;
            default: return latest;
        }
    }

    // ---- what is told of all

    public int image() {
        if (law == null) {
            return STATE;
        }
        kept.copyFrom(now);
        rowOfImage = rowsRead;
        return now.changes;
    }

    public int restore() {
        if (rowOfImage == 0 || rowOfImage != rowsRead) {
            return STATE;
        }
        now.copyFrom(kept);
        return now.changes;
    }

    public int count(int what) {
        switch (what) {
            case 0: return now.first.size;
            case 1: return now.first.highestOf(now.first.heights);
            case 2: return now.first.linksOf(now.first.heights);
            case 3: return now.first.valuesBetween(0, GREATEST_KEY);
            case 4: return now.first.allHeat();
            case 5: return now.second.size;
            case 6: return now.asked;
            case 7: return now.looksOfAsked;
            case 8: return now.changes;
            case 9: return now.seen.size;
            case 10: return page.size;
            case 11: return rowsRead;
            case 12: return bestsDone;
            default: return OUTSIDE;
        }
    }

    public long digest() {
        long h = 1151;
        for (int number = 0; number < now.first.size; number++) {
            h = withKey(h, number);
        }
        if (law != null) {
            h = withRow(withLanes(h));
        }
        h = withCodes(h, page.codes, page.size);
        for (int what = 0; what <= LAST_COUNT; what++) {
            h = 31 * h + count(what);
        }
        return h;
    }

    private long withKey(long before, int number) {
        long h = before;
        for (int what = 0; what <= 23; what++) {
            if (what <= 6 || (what >= 10 && what <= 13) || what >= 20) {
                h = 31 * h + key(number, what);
            }
        }
        return h;
    }

    private long withLanes(long before) {
        long h = before;
        for (int lane = 0; lane < HIGHEST; lane++) {
            for (int what = 0; what <= 3; what++) {
                h = 31 * h + lane(lane, what);
            }
        }
        return h;
    }

    private long withRow(long before) {
        long h = before;
        for (int number = 0; number < now.first.size; number++) {
            h = 31 * h + nth(number, 1);
        }
        h = 31 * h + cost();
        trial.seekChange(now.first);
        h = 31 * h + trial.changeNumber;
        h = 31 * h + trial.changeHeight;
        h = 31 * h + trial.least;
        written.write(law, now.first);
        return withCodes(h, written.codes, written.size);
    }

    private static long withCodes(long before, int[] codes, int size) {
        long h = before;
        for (int place = 0; place < size && place < codes.length; place++) {
            h = 31 * h + codes[place];
        }
        return h;
    }

    private boolean namesNoKey(int number) {
        return number < 0 || number >= now.first.size;
    }

    private static boolean isNoKey(int key) {
        return key < 0 || key > GREATEST_KEY;
    }

    private boolean isKind(int kind) {
        switch (kind) {
            case 0: return true;
            case 1: return law instanceof Halves;
            case 2: return law instanceof Sums;
            case 3: return law instanceof Even;
            default: return law instanceof Thirds;
        }
    }

    private static int seedBehind(int seed) {
        return (int) ((1103515245L * seed + 12345L) & 0x7fffffffL);
    }

    private int looksFor(int key) {
        walk.go(now.first, now.first.heights, NONE, key);
        return walk.looks;
    }

    private int laneOf(int key) {
        walk.go(now.first, now.first.heights, NONE, key);
        return walk.lane;
    }

    private int valueOf(int number) {
        return namesNoKey(number) ? NONE : now.first.values[number];
    }

    private void changeIsMade() {
        raiseTowers();
        now.changes++;
    }

    /** By some LAWS a HEIGHT hangs on the number, so all are made anew. */
    private void raiseTowers() {
        Towers row = now.first;
        if (law == null) {
            return;
        }
        for (int number = 0; number < row.size; number++) {
            row.heights[number] = law.heightOf(row.keys[number], number, row.heights[number]);
        }
    }

    /** The plain LAW: a KEY is as high as it was told. */
    static class Law {
        static Law bySign(int code) {
            switch (code) {
                case 't': return new Law();
                case 'h': return new Halves();
                case 's': return new Sums();
                case 'e': return new Even();
                case 'd': return new Thirds();
                default: return null;
            }
        }

        char sign() {
            return 't';
        }

        boolean tellsHeights() {
            return true;
        }

        int heightOf(int key, int number, int told) {
            return told;
        }

        /** 1, and 1 more for each time that the divisor divides it without rest. */
        static int heightByDivisor(int dividend, int divisor) {
            int height = 1;
            int left = dividend;
            while (height < HIGHEST && divisor > 1 && left > 0 && left % divisor == 0) {
                height++;
                left /= divisor;
            }
            return height;
        }
    }

    static class Halves extends Law {
        char sign() {
            return 'h';
        }

        boolean tellsHeights() {
            return false;
        }

        int heightOf(int key, int number, int told) {
            return heightByDivisor(key + 1, 2);
        }
    }

    static final class Thirds extends Halves {
        char sign() {
            return 'd';
        }

        int heightOf(int key, int number, int told) {
            return heightByDivisor(key + 1, 3);
        }
    }

    static final class Sums extends Law {
        char sign() {
            return 's';
        }

        boolean tellsHeights() {
            return false;
        }

        int heightOf(int key, int number, int told) {
            return 1 + (key / 10 + key % 10) % 4;
        }
    }

    static final class Even extends Law {
        char sign() {
            return 'e';
        }

        boolean tellsHeights() {
            return false;
        }

        int heightOf(int key, int number, int told) {
            return heightByDivisor(number + 1, 2);
        }
    }

    /** Letters by their codes: THE PAGE, or what a ROW is written as. */
    static final class Text {
        final int[] codes = new int[MOST_LETTERS];
        int size;

        int add(int code) {
            if (size < MOST_LETTERS) {
                codes[size] = code;
                size++;
            }
            return size;
        }

        int clear() {
            int had = size;
            size = 0;
            return had;
        }

        void write(Law law, Towers row) {
            clear();
            add(law.sign());
            for (int number = 0; number < row.size; number++) {
                add(number == 0 ? ';' : ',');
                add('0' + row.keys[number] / 10);
                add('0' + row.keys[number] % 10);
                add('0' + row.values[number]);
                if (law.tellsHeights()) {
                    add('0' + row.heights[number]);
                }
            }
        }

        int firstFault() {
            int signs = signsOfKey();
            if (signs == NONE) {
                return 0;
            }
            if (size > 1 && codes[1] != ';') {
                return 1;
            }
            int number = 0;
            int sign = 0;
            for (int place = 2; place < size; place++) {
                if (!fits(place, number, sign, signs)) {
                    return place;
                }
                sign++;
                if (sign > signs) {
                    sign = 0;
                    number++;
                }
            }
            return size;
        }

        /** How many KEYS this ROW has; NONE: it is no ROW. */
        int keysTold() {
            int signs = signsOfKey();
            if (signs == NONE || firstFault() < size) {
                return NONE;
            }
            for (int keys = FEWEST_KEYS; keys <= MOST_KEYS; keys++) {
                if (size == 1 + keys * (signs + 1)) {
                    return keys;
                }
            }
            return NONE;
        }

        void tellTo(Towers row) {
            int keys = keysTold();
            int signs = signsOfKey();
            for (int number = 0; number < keys; number++) {
                int place = 2 + number * (signs + 1);
                int height = signs > 3 ? digitAt(place + 3) : 1;
                row.insert(number, keyAt(place), digitAt(place + 2), height);
            }
        }

        /** How many letters tell one KEY; NONE: no LAW has such a letter. */
        private int signsOfKey() {
            switch (size > 0 ? codes[0] : 0) {
                case 't': return 4;
                case 'h': case 's': case 'e': case 'd': return 3;
                default: return NONE;
            }
        }

        private boolean fits(int place, int number, int sign, int signs) {
            int code = codes[place];
            if (sign == signs) {
                return code == ',' && number < MOST_KEYS - 1;
            }
            if (code < '0' || code > '9') {
                return false;
            }
            if (sign == 1) {
                return number == 0 || keyAt(place - 1) > keyAt(place - signs - 2);
            }
            return sign != 3 || (code >= '1' && code <= '4');
        }

        private int keyAt(int place) {
            return 10 * digitAt(place) + digitAt(place + 1);
        }

        private int digitAt(int place) {
            return place >= 0 && place < size ? codes[place] - '0' : 0;
        }
    }

    /** KEYS in order, each with what belongs to it; NONE as a number is ahead of all. */
    static final class Towers {
        final int[] keys = new int[MOST_KEYS];
        final int[] values = new int[MOST_KEYS];
        final int[] heights = new int[MOST_KEYS];
        final int[] heats = new int[MOST_KEYS];
        int size;

        void copyFrom(Towers other) {
            size = 0;
            append(other, 0);
        }

        /** Takes over what the other one has from a number on. */
        void append(Towers other, int first) {
            for (int from = first; from < other.size && size < MOST_KEYS; from++) {
                size++;
                fill(size - 1, other, from);
            }
        }

        void insert(int number, int key, int value, int height) {
            if (number < 0 || number > size || size >= MOST_KEYS) {
                return;
            }
            for (int to = size; to > number; to--) {
                fill(to, this, to - 1);
            }
            size++;
            keys[number] = key;
            values[number] = value;
            heights[number] = height;
            heats[number] = 0;
        }

        void takeOut(int number) {
            for (int to = number; to + 1 < size; to++) {
                fill(to, this, to + 1);
            }
            size--;
        }

        private void fill(int to, Towers other, int from) {
            keys[to] = other.keys[from];
            values[to] = other.values[from];
            heights[to] = other.heights[from];
            heats[to] = other.heats[from];
        }

        /** The first number of which the KEY is not less; how many KEYS there are, if none is such. */
        int firstNotLess(int key) {
            int number = 0;
            while (number < size && keys[number] < key) {
                number++;
            }
            return number;
        }

        int numberOf(int key) {
            int number = firstNotLess(key);
            return number < size && keys[number] == key ? number : NONE;
        }

        int lastKey() {
            return size > 0 ? keys[size - 1] : NONE;
        }

        int nextInLane(int[] towers, int from, int lane) {
            for (int number = from + 1; number < size; number++) {
                if (towers[number] > lane) {
                    return number;
                }
            }
            return NONE;
        }

        private boolean reaches(int number, int lane) {
            return number == NONE || heights[number] > lane;
        }

        int widthFrom(int number, int lane) {
            int next = nextInLane(heights, number, lane);
            return next == NONE || !reaches(number, lane) ? NONE : next - number;
        }

        int weightFrom(int number, int lane) {
            int next = nextInLane(heights, number, lane);
            if (next == NONE || !reaches(number, lane)) {
                return NONE;
            }
            int weight = 0;
            for (int passed = number + 1; passed <= next; passed++) {
                weight += values[passed];
            }
            return weight;
        }

        int greatestWidth(int lane) {
            int greatest = widthFrom(NONE, lane);
            for (int number = 0; number < size; number++) {
                greatest = Math.max(greatest, widthFrom(number, lane));
            }
            return greatest;
        }

        int keysInLane(int lane) {
            int there = 0;
            for (int number = 0; number < size; number++) {
                there += heights[number] > lane ? 1 : 0;
            }
            return there;
        }

        int highestOf(int[] towers) {
            int highest = 0;
            for (int number = 0; number < size; number++) {
                highest = Math.max(highest, towers[number]);
            }
            return highest;
        }

        int linksOf(int[] towers) {
            int links = 0;
            for (int number = 0; number < size; number++) {
                links += towers[number];
            }
            return links;
        }

        int valuesBetween(int from, int to) {
            int all = 0;
            for (int number = 0; number < size; number++) {
                all += keys[number] >= from && keys[number] <= to ? values[number] : 0;
            }
            return all;
        }

        int allHeat() {
            int all = 0;
            for (int number = 0; number < size; number++) {
                all += heats[number];
            }
            return all;
        }
    }

    /** One search, and what came of it. */
    static final class Walk {
        // Far above 8 steps, and 4 LANES down for each.
        private static final int MOST_TURNS = 100;

        int number;
        int lane;
        int looks;

        /** From ahead of all (NONE) one stays in a LANE behind a step; from a FINGER one climbs. */
        void go(Towers row, int[] towers, int start, int key) {
            boolean climbs = start >= 0 && start < row.size;
            int at = climbs ? start : NONE;
            int level = (climbs ? towers[start] : row.highestOf(towers)) - 1;
            number = NONE;
            lane = NONE;
            looks = 0;
            if (climbs && row.keys[start] == key) {
                number = start;
                return;
            }
            for (int turn = 0; turn < MOST_TURNS && level >= 0; turn++) {
                int next = row.nextInLane(towers, at, level);
                looks += next == NONE ? 0 : 1;
                if (next == NONE || row.keys[next] > key) {
                    level--;
                } else if (row.keys[next] == key) {
                    number = next;
                    lane = level;
                    return;
                } else {
                    at = next;
                    level = climbs ? towers[next] - 1 : level;
                }
            }
        }
    }

    /** What would be with other HEIGHTS. */
    static final class Trial {
        private final Walk walk = new Walk();
        private final int[] tried = new int[MOST_KEYS];
        private final int[] bestHeights = new int[MOST_KEYS];
        private final int[] looks = new int[HIGHEST + 1];
        int least;
        int bestLinks;
        int changeNumber;
        int changeHeight;

        int costOf(Towers row, int[] towers) {
            int cost = 0;
            for (int at = 0; at < row.size; at++) {
                if (row.heats[at] > 0) {
                    walk.go(row, towers, NONE, row.keys[at]);
                    cost += row.heats[at] * walk.looks;
                }
            }
            return cost;
        }

        /** The least COST is NONE, if there are too few LINKS. */
        void seekBest(Towers row, int links) {
            least = NONE;
            bestLinks = NONE;
            for (int at = 0; at < row.size; at++) {
                tried[at] = 1;
            }
            // 729 ways to raise 6 KEYS; each turn ends or goes to the next way.
            boolean isLeft = true;
            for (int turn = 0; turn < 1000 && isLeft; turn++) {
                int used = row.linksOf(tried);
                if (used <= links) {
                    weigh(row, used);
                }
                isLeft = nextWay(row.size);
            }
        }

        private void weigh(Towers row, int used) {
            int cost = costOf(row, tried);
            if (least != NONE && cost >= least) {
                return;
            }
            least = cost;
            bestLinks = used;
            copyHeights(row, tried, bestHeights);
        }

        /** Counts up with KEY 0 as the slowest, so that the first of like ones comes first. */
        private boolean nextWay(int size) {
            for (int at = size - 1; at >= 0; at--) {
                if (tried[at] < HIGHEST_OF_BEST) {
                    tried[at]++;
                    return true;
                }
                tried[at] = 1;
            }
            return false;
        }

        int bestHeight(Towers row, int at) {
            return at >= 0 && at < row.size ? bestHeights[at] : NONE;
        }

        /** Number, HEIGHT and least COST are NONE, if no CHANGE makes it less. */
        void seekChange(Towers row) {
            changeNumber = NONE;
            changeHeight = NONE;
            least = costOf(row, row.heights);
            copyHeights(row, row.heights, tried);
            for (int at = 0; at < row.size; at++) {
                for (int other = 1; other <= HIGHEST; other++) {
                    tried[at] = other;
                    weighChange(row, at);
                }
                tried[at] = row.heights[at];
            }
            if (changeNumber == NONE) {
                least = NONE;
            }
        }

        private void weighChange(Towers row, int at) {
            int cost = costOf(row, tried);
            if (cost < least) {
                least = cost;
                changeNumber = at;
                changeHeight = tried[at];
            }
        }

        /** As bits: 1 for HEIGHT 1, 2 for 2, 4 for 3, 8 for 4. */
        int heightsLeft(Towers row, Seen seen, int number) {
            copyHeights(row, row.heights, tried);
            int bits = 0;
            for (int height = 1; height <= HIGHEST; height++) {
                tried[number] = height;
                if (agrees(row, seen, row.keys[number])) {
                    bits |= 1 << (height - 1);
                }
            }
            return bits;
        }

        private boolean agrees(Towers row, Seen seen, int ofKey) {
            for (int at = 0; at < seen.size; at++) {
                if (seen.of[at] == ofKey) {
                    walk.go(row, tried, NONE, seen.sought[at]);
                    if (walk.looks != seen.looks[at]) {
                        return false;
                    }
                }
            }
            return true;
        }

        int bestTry(Towers row, Seen seen, int number) {
            int bits = heightsLeft(row, seen, number);
            int best = NONE;
            int fewest = HIGHEST + 1;
            for (int key = 0; key <= GREATEST_KEY && bits != 0; key++) {
                int left = leftAtWorst(row, number, bits, key);
                if (left < fewest) {
                    fewest = left;
                    best = key;
                }
            }
            return best;
        }

        private int leftAtWorst(Towers row, int number, int bits, int key) {
            int worst = 0;
            for (int height = 1; height <= HIGHEST; height++) {
                tried[number] = height;
                walk.go(row, tried, NONE, key);
                looks[height] = walk.looks;
            }
            for (int height = 1; height <= HIGHEST; height++) {
                worst = Math.max(worst, alike(bits, looks[height]));
            }
            return worst;
        }

        /** How many of the HEIGHTS that are left would be left by so many LOOKS. */
        private int alike(int bits, int counted) {
            int left = 0;
            for (int height = 1; height <= HIGHEST; height++) {
                boolean isLeft = (bits >> (height - 1) & 1) == 1;
                left += isLeft && looks[height] == counted ? 1 : 0;
            }
            return left;
        }

        private static void copyHeights(Towers row, int[] from, int[] to) {
            for (int at = 0; at < row.size; at++) {
                to[at] = from[at];
            }
        }
    }

    /** How many LOOKS were SEEN, FOR which KEY, to learn of which KEY's HEIGHT. */
    static final class Seen {
        final int[] of = new int[MOST_SEEN];
        final int[] sought = new int[MOST_SEEN];
        final int[] looks = new int[MOST_SEEN];
        int size;

        int add(int ofKey, int soughtKey, int counted) {
            if (size < MOST_SEEN) {
                of[size] = ofKey;
                sought[size] = soughtKey;
                looks[size] = counted;
                size++;
            }
            return size;
        }

        int clear() {
            int had = size;
            size = 0;
            return had;
        }

        void copyFrom(Seen other) {
            size = 0;
            for (int at = 0; at < other.size; at++) {
                add(other.of[at], other.sought[at], other.looks[at]);
            }
        }
    }

    /** All that an IMAGE keeps. */
    static final class Kept {
        final Towers first = new Towers();
        final Towers second = new Towers();
        final Seen seen = new Seen();
        int asked;
        int looksOfAsked;
        int changes;

        void clear() {
            first.size = 0;
            second.size = 0;
            seen.clear();
            asked = 0;
            looksOfAsked = 0;
            changes = 0;
        }

        void copyFrom(Kept other) {
            first.copyFrom(other.first);
            second.copyFrom(other.second);
            seen.copyFrom(other.seen);
            asked = other.asked;
            looksOfAsked = other.looksOfAsked;
            changes = other.changes;
        }
    }
}
