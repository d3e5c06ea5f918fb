import java.util.ArrayList;
import java.util.Arrays;
import java.util.List;
import java.util.Random;
import java.util.TreeMap;

/** Long runs of calls by fixed seeds, each answer held against a second program that is built of linked towers. */
public final class ModelTest {
    private static final int NONE = -1, UNKNOWN = -101, OUTSIDE = -102, STATE = -103, FULL = -104;
    private static final String LAWS = "thsed";

    /** What belongs to one KEY. */
    private record Cell(int value, int told, int heat) { }

    private record Sight(int of, int sought, int looks) { }

    private record Image(TreeMap<Integer, Cell> row, TreeMap<Integer, Cell> second, List<Sight> seen,
            int asked, int looks, int changes, int rows) { }

    /** A KEY with its links; the head is the tower ahead of all. */
    private static final class Node {
        int key;
        int number;
        int height;
        Node[] next = new Node[4];
        int[] width = new int[4];
        int[] weight = new int[4];
    }

    private record Result(Node node, int looks, int lane) { }

    private static final class Model {
        StringBuilder page = new StringBuilder();
        char law;
        TreeMap<Integer, Cell> row = new TreeMap<>();
        TreeMap<Integer, Cell> second = new TreeMap<>();
        List<Sight> seen = new ArrayList<>();
        int asked;
        int looksOfAsked;
        int changes;
        int rows;
        int bests;
        Image image;

        List<Integer> keys() {
            return new ArrayList<>(row.keySet());
        }

        int[] heights() {
            int[] heights = new int[row.size()];
            int number = 0;
            for (int key : row.keySet()) {
                int height = switch (law) {
                    case 't' -> row.get(key).told();
                    case 'h' -> key % 8 == 7 ? 4 : key % 4 == 3 ? 3 : key % 2 == 1 ? 2 : 1;
                    case 'd' -> key % 27 == 26 ? 4 : key % 9 == 8 ? 3 : key % 3 == 2 ? 2 : 1;
                    case 's' -> 1 + (key / 10 + key % 10) % 4;
                    default -> new int[] {1, 2, 1, 3, 1, 2, 1, 4}[number];
                };
                heights[number++] = height;
            }
            return heights;
        }

        Node build(int[] heights) {
            Node head = new Node();
            head.key = -1;
            head.number = -1;
            for (int height : heights) {
                head.height = Math.max(head.height, height);
            }
            Node[] last = {head, head, head, head};
            int number = 0;
            for (int key : row.keySet()) {
                Node node = new Node();
                node.key = key;
                node.number = number;
                node.height = heights[number];
                for (int lane = 0; lane < node.height; lane++) {
                    last[lane].next[lane] = node;
                    last[lane].width[lane] = number - last[lane].number;
                    for (int k : row.keySet()) {
                        last[lane].weight[lane] += k > last[lane].key && k <= key ? row.get(k).value() : 0;
                    }
                    last[lane] = node;
                }
                number++;
            }
            return head;
        }

        Node node(int number) {
            Node node = build(heights()).next[0];
            for (int i = 0; i < number; i++) {
                node = node.next[0];
            }
            return node;
        }

        Result look(Node at, int lane, int key, int looks, boolean climbs) {
            if (lane < 0) {
                return new Result(null, looks, NONE);
            }
            Node next = at.next[lane];
            if (next == null) {
                return look(at, lane - 1, key, looks, climbs);
            }
            if (next.key == key) {
                return new Result(next, looks + 1, lane);
            }
            return next.key < key ? look(next, climbs ? next.height - 1 : lane, key, looks + 1, climbs)
                : look(at, lane - 1, key, looks + 1, climbs);
        }

        Result look(int key, int[] heights) {
            Node head = build(heights);
            return look(head, head.height - 1, key, 0, false);
        }

        Result lookForNumber(int number) {
            Node at = build(heights());
            int lane = at.height - 1;
            int gone = 0;
            int looks = 0;
            while (true) {
                if (at.next[lane] == null) {
                    lane--;
                    continue;
                }
                looks++;
                if (gone + at.width[lane] > number + 1) {
                    lane--;
                    continue;
                }
                gone += at.width[lane];
                at = at.next[lane];
                if (gone == number + 1) {
                    return new Result(at, looks, lane);
                }
            }
        }

        int fault() {
            String s = page.toString();
            int place = 0;
            while (place < s.length() && isBeginning(s.substring(0, place + 1))) {
                place++;
            }
            return place;
        }

        boolean isBeginning(String s) {
            if (LAWS.indexOf(s.charAt(0)) < 0) {
                return false;
            }
            if (s.length() > 1 && s.charAt(1) != ';') {
                return false;
            }
            if (s.length() <= 2) {
                return true;
            }
            String[] parts = s.substring(2).split(",", -1);
            String form = s.charAt(0) == 't' ? "([0-9]|[0-9]{3}|[0-9]{2}|[0-9]{3}[1-4])?" : "[0-9]{0,3}";
            for (int i = 0; i < parts.length; i++) {
                if (!parts[i].matches(form) || i < parts.length - 1 && parts[i].length() != size(s)) {
                    return false;
                }
                if (i > 0 && parts[i].length() > 1
                        && parts[i].substring(0, 2).compareTo(parts[i - 1].substring(0, 2)) <= 0) {
                    return false;
                }
            }
            return parts.length <= 8;
        }

        int size(String s) {
            return s.charAt(0) == 't' ? 4 : 3;
        }

        int row() {
            String s = page.toString();
            if (s.isEmpty() || fault() < s.length() || s.length() <= 2) {
                return STATE;
            }
            String[] parts = s.substring(2).split(",", -1);
            if (parts.length < 2 || parts[parts.length - 1].length() != size(s)) {
                return STATE;
            }
            law = s.charAt(0);
            row.clear();
            second.clear();
            seen.clear();
            asked = 0;
            looksOfAsked = 0;
            changes = 0;
            for (String part : parts) {
                int told = law == 't' ? part.charAt(3) - '0' : 1;
                row.put(Integer.parseInt(part.substring(0, 2)), new Cell(part.charAt(2) - '0', told, 0));
            }
            page.setLength(0);
            rows++;
            return parts.length;
        }

        String tape() {
            StringBuilder s = new StringBuilder();
            for (var e : row.entrySet()) {
                s.append(s.length() == 0 ? law + ";" : ",");
                s.append(String.format("%02d%d", e.getKey(), e.getValue().value()));
                s.append(law == 't' ? "" + e.getValue().told() : "");
            }
            return s.toString();
        }

        int key(int number, int what) {
            if (number < 0 || number >= row.size()) {
                return UNKNOWN;
            }
            int key = keys().get(number);
            Node node = node(number);
            if (what >= 10 && what <= 13 || what >= 20 && what <= 23) {
                int lane = what % 10;
                return node.next[lane] == null ? NONE : what < 20 ? node.width[lane] : node.weight[lane];
            }
            return switch (what) {
                case 0 -> key;
                case 1 -> row.get(key).value();
                case 2 -> node.height;
                case 3 -> row.get(key).heat();
                case 4 -> look(key, heights()).looks();
                case 5 -> look(key, heights()).lane();
                case 6 -> possible(number).stream().mapToInt(height -> 1 << height - 1).sum();
                case 7 -> tryFor(number);
                default -> OUTSIDE;
            };
        }

        int[] with(int number, int height) {
            int[] heights = heights();
            heights[number] = height;
            return heights;
        }

        List<Integer> possible(int number) {
            List<Integer> left = new ArrayList<>();
            int of = keys().get(number);
            for (int height = 1; height <= 4; height++) {
                int[] heights = with(number, height);
                if (seen.stream().allMatch(s -> s.of() != of || look(s.sought(), heights).looks() == s.looks())) {
                    left.add(height);
                }
            }
            return left;
        }

        int tryFor(int number) {
            List<Integer> left = possible(number);
            int best = NONE;
            int fewest = 99;
            for (int key = 0; key <= 99 && !left.isEmpty(); key++) {
                int[] tally = new int[100];
                for (int height : left) {
                    tally[look(key, with(number, height)).looks()]++;
                }
                int worst = Arrays.stream(tally).max().getAsInt();
                if (worst < fewest) {
                    fewest = worst;
                    best = key;
                }
            }
            return best;
        }

        int lane(int lane, int what) {
            if (lane < 0 || lane > 3 || row.isEmpty()) {
                return UNKNOWN;
            }
            if (what < 0 || what > 3) {
                return OUTSIDE;
            }
            Node head = build(heights());
            int there = 0;
            int widest = NONE;
            for (Node node = head; node.next[lane] != null; node = node.next[lane]) {
                there++;
                widest = Math.max(widest, node.width[lane]);
            }
            return what == 0 ? there : there == 0 ? NONE
                : what == 1 ? head.width[lane] : what == 2 ? head.weight[lane] : widest;
        }

        int find(int key, int what) {
            if (key < 0 || key > 99 || what < 0 || what > 3) {
                return OUTSIDE;
            }
            if (row.isEmpty()) {
                return STATE;
            }
            Result found = look(key, heights());
            return what == 1 ? found.looks() : found.node() == null ? NONE
                : what == 0 ? found.node().number : what == 2 ? found.lane() : row.get(key).value();
        }

        int nth(int number, int what) {
            if (number < 0 || number >= row.size()) {
                return UNKNOWN;
            }
            if (what < 0 || what > 2) {
                return OUTSIDE;
            }
            Result found = lookForNumber(number);
            return what == 0 ? found.node().key : what == 1 ? found.looks() : found.lane();
        }

        int sum(int from, int to) {
            if (from < 0 || to > 99 || from > to) {
                return OUTSIDE;
            }
            return row.isEmpty() ? STATE
                : row.subMap(from, true, to, true).values().stream().mapToInt(Cell::value).sum();
        }

        int finger(int finger, int key, int what) {
            if (finger < 0 || finger >= row.size()) {
                return UNKNOWN;
            }
            if (key < keys().get(finger) || key > 99 || what < 0 || what > 1) {
                return OUTSIDE;
            }
            Node from = node(finger);
            Result found = from.key == key ? new Result(from, 0, NONE) : look(from, from.height - 1, key, 0, true);
            return what == 1 ? found.looks() : found.node() == null ? NONE : found.node().number;
        }

        int ask(int key) {
            if (key < 0 || key > 99) {
                return OUTSIDE;
            }
            if (row.isEmpty()) {
                return STATE;
            }
            Cell cell = row.get(key);
            if (cell != null && cell.heat() == 99) {
                return FULL;
            }
            asked++;
            looksOfAsked += look(key, heights()).looks();
            if (cell == null) {
                return NONE;
            }
            row.put(key, new Cell(cell.value(), cell.told(), cell.heat() + 1));
            return cell.value();
        }

        int put(int key, int value, int height) {
            if (key < 0 || key > 99 || value < 0 || value > 9 || height < 1 || height > 4) {
                return OUTSIDE;
            }
            if (row.isEmpty()) {
                return STATE;
            }
            Cell cell = row.get(key);
            if (cell == null && row.size() == 8) {
                return FULL;
            }
            row.put(key, new Cell(value, height, cell == null ? 0 : cell.heat()));
            changes++;
            return row.headMap(key).size();
        }

        int remove(int key) {
            if (key < 0 || key > 99) {
                return OUTSIDE;
            }
            if (!row.containsKey(key) || row.size() == 2) {
                return STATE;
            }
            changes++;
            return row.remove(key).value();
        }

        int split(int key) {
            if (key < 0 || key > 99) {
                return OUTSIDE;
            }
            if (!second.isEmpty() || row.headMap(key).size() < 2 || row.tailMap(key).isEmpty()) {
                return STATE;
            }
            second = new TreeMap<>(row.tailMap(key));
            row = new TreeMap<>(row.headMap(key));
            changes++;
            return second.size();
        }

        int join() {
            if (second.isEmpty() || second.firstKey() <= row.lastKey()) {
                return STATE;
            }
            if (row.size() + second.size() > 8) {
                return FULL;
            }
            row.putAll(second);
            second.clear();
            changes++;
            return row.size();
        }

        int costWith(int[] heights) {
            int all = 0;
            for (var e : row.entrySet()) {
                all += e.getValue().heat() == 0 ? 0 : e.getValue().heat() * look(e.getKey(), heights).looks();
            }
            return all;
        }

        int cost() {
            return row.isEmpty() ? STATE : costWith(heights());
        }

        void ways(int[] heights, int number, int links, List<int[]> all) {
            if (links < 0) {
                return;
            }
            if (number == heights.length) {
                all.add(heights.clone());
                return;
            }
            for (int height = 1; height <= 3; height++) {
                heights[number] = height;
                ways(heights, number + 1, links - height, all);
            }
        }

        int best(int links, int what) {
            if (links < 1 || links > 18 || !(what == 0 || what == 1 || what >= 10 && what <= 15)) {
                return OUTSIDE;
            }
            if (row.isEmpty() || row.size() > 6 || bests == 12) {
                return STATE;
            }
            bests++;
            List<int[]> all = new ArrayList<>();
            ways(new int[row.size()], 0, links, all);
            int[] best = null;
            for (int[] way : all) {
                best = best == null || costWith(way) < costWith(best) ? way : best;
            }
            return best == null ? NONE : what == 0 ? costWith(best) : what == 1 ? Arrays.stream(best).sum()
                : what - 10 < best.length ? best[what - 10] : NONE;
        }

        int change(int what) {
            if (what < 0 || what > 2) {
                return OUTSIDE;
            }
            if (row.isEmpty()) {
                return STATE;
            }
            int[] best = {NONE, NONE, cost()};
            for (int number = 0; number < row.size(); number++) {
                for (int height = 1; height <= 4; height++) {
                    int then = costWith(with(number, height));
                    best = then < best[2] ? new int[] {number, height, then} : best;
                }
            }
            return best[0] == NONE ? NONE : best[what];
        }

        int see(int number, int key, int looks) {
            if (number < 0 || number >= row.size()) {
                return UNKNOWN;
            }
            if (key < 0 || key > 99 || looks < 0 || looks > 99) {
                return OUTSIDE;
            }
            if (seen.size() == 6) {
                return FULL;
            }
            seen.add(new Sight(keys().get(number), key, looks));
            return seen.size();
        }

        int forget() {
            int had = seen.size();
            seen.clear();
            return had;
        }

        int rounds(int times, int seed, int what) {
            if (times < 1 || times > 60 || seed < 0 || what < 0 || what > 2) {
                return OUTSIDE;
            }
            if (row.isEmpty()) {
                return STATE;
            }
            long now = seed;
            int found = 0;
            int looks = 0;
            for (int i = 0; i < times; i++) {
                now = Math.floorMod(1103515245L * now + 12345L, 1L << 31);
                Result result = look((int) (now / 65536 % 100), heights());
                found += result.node() == null ? 0 : 1;
                looks += result.looks();
            }
            return what == 0 ? found : what == 1 ? looks : (int) now;
        }

        int image() {
            if (row.isEmpty()) {
                return STATE;
            }
            image = new Image(new TreeMap<>(row), new TreeMap<>(second), new ArrayList<>(seen),
                asked, looksOfAsked, changes, rows);
            return changes;
        }

        int restore() {
            if (image == null || image.rows() != rows) {
                return STATE;
            }
            row = new TreeMap<>(image.row());
            second = new TreeMap<>(image.second());
            seen = new ArrayList<>(image.seen());
            asked = image.asked();
            looksOfAsked = image.looks();
            changes = image.changes();
            return changes;
        }

        int count(int what) {
            return switch (what) {
                case 0 -> row.size();
                case 1 -> Arrays.stream(heights()).max().orElse(0);
                case 2 -> Arrays.stream(heights()).sum();
                case 3 -> row.values().stream().mapToInt(Cell::value).sum();
                case 4 -> row.values().stream().mapToInt(Cell::heat).sum();
                case 5 -> second.size();
                case 6 -> asked;
                case 7 -> looksOfAsked;
                case 8 -> changes;
                case 9 -> seen.size();
                case 10 -> page.length();
                case 11 -> rows;
                case 12 -> bests;
                default -> OUTSIDE;
            };
        }

        long digest() {
            List<Long> all = new ArrayList<>();
            int[] ofKey = {0, 1, 2, 3, 4, 5, 6, 10, 11, 12, 13, 20, 21, 22, 23};
            for (int number = 0; number < row.size(); number++) {
                for (int what : ofKey) {
                    all.add((long) key(number, what));
                }
            }
            if (!row.isEmpty()) {
                for (int i = 0; i < 16; i++) {
                    all.add((long) lane(i / 4, i % 4));
                }
                for (int number = 0; number < row.size(); number++) {
                    all.add((long) nth(number, 1));
                }
                all.add((long) cost());
                for (int what = 0; what < 3; what++) {
                    all.add((long) change(what));
                }
                tape().chars().forEach(c -> all.add((long) c));
            }
            page.toString().chars().forEach(c -> all.add((long) c));
            for (int what = 0; what <= 12; what++) {
                all.add((long) count(what));
            }
            long h = 1151;
            for (long number : all) {
                h = 31 * h + number;
            }
            return h;
        }
    }

    private final Random random;
    private final Model model = new Model();
    private final LaneRow program = new LaneRow();
    private final List<String> calls = new ArrayList<>();
    private static int answers = 0;

    private ModelTest(long seed) {
        random = new Random(seed);
    }

    private void due(String call, long got, long want) {
        calls.add(call + " = " + got);
        answers++;
        if (got != want) {
            calls.forEach(System.out::println);
            System.out.println(call + " answered " + got + ", due is " + want);
            System.exit(1);
        }
    }

    private int odd() {
        int[] odd = {Integer.MIN_VALUE, Integer.MAX_VALUE, -1, -2, 100, 127};
        return odd[random.nextInt(odd.length)];
    }

    private int upTo(int most) {
        return random.nextInt(25) == 0 ? odd() : random.nextInt(most + 2);
    }

    private int someKey() {
        if (random.nextInt(3) == 0 || model.row.isEmpty()) {
            return upTo(99);
        }
        return model.keys().get(random.nextInt(model.row.size())) + (random.nextInt(4) == 0 ? 1 : 0);
    }

    private int someOf(int... whats) {
        return random.nextInt(20) == 0 ? upTo(25) : whats[random.nextInt(whats.length)];
    }

    private String someRow() {
        char law = LAWS.charAt(random.nextInt(5));
        TreeMap<Integer, String> cells = new TreeMap<>();
        int size = random.nextInt(20) == 0 ? random.nextInt(10) : 2 + random.nextInt(7);
        int span = random.nextBoolean() ? 100 : 20;
        for (int i = 0; i < 50 && cells.size() < size; i++) {
            int key = random.nextInt(span);
            String height = law == 't' ? "" + (1 + random.nextInt(4)) : "";
            cells.put(key, String.format("%02d%d%s", key, random.nextInt(10), height));
        }
        StringBuilder s = new StringBuilder(law + ";" + String.join(",", cells.values()));
        if (random.nextInt(5) == 0) {
            s.setCharAt(random.nextInt(s.length()), "0123456789,;thsedx".charAt(random.nextInt(18)));
        }
        if (random.nextInt(10) == 0) {
            s.setLength(random.nextInt(s.length()));
        }
        return s.toString();
    }

    private void letter(int code) {
        int want = code < 1 || code > 126 ? OUTSIDE : model.page.length() == 44 ? FULL : 0;
        if (want == 0) {
            want = model.page.append((char) code).length();
        }
        due("letter(" + code + ")", program.letter(code), want);
    }

    private void read() {
        int had = model.page.length();
        if (random.nextInt(8) != 0) {
            model.page.setLength(0);
            due("blank()", program.blank(), had);
        }
        for (char c : someRow().toCharArray()) {
            letter(c);
            if (random.nextInt(10) == 0) {
                due("fault()", program.fault(), model.fault());
            }
        }
        due("fault()", program.fault(), model.fault());
        due("row()", program.row(), model.row());
    }

    private void call() {
        int a = someKey();
        int b = someKey();
        int n = upTo(7);
        switch (random.nextInt(29)) {
            case 0: letter(upTo(126)); break;
            case 1: due("fault()", program.fault(), model.fault()); break;
            case 2: tape(upTo(50)); break;
            case 3: as(upTo(4)); break;
            case 4: case 5: case 6: key(n, someOf(0, 1, 2, 3, 4, 5, 6, 6, 7, 7, 10, 11, 12, 13, 20, 21, 22, 23)); break;
            case 7: lane(upTo(3), upTo(3)); break;
            case 8: find(a, upTo(3)); break;
            case 9: nth(n, upTo(2)); break;
            case 10: due("sum(" + a + ", " + b + ")", program.sum(a, b), model.sum(a, b)); break;
            case 11: finger(n, Math.max(a, b), upTo(1)); break;
            case 12: case 13: asks(a, random.nextInt(12) == 0 ? 60 : 3); break;
            case 14: case 15: put(a, upTo(9), 1 + random.nextInt(4)); break;
            case 16: put(a, upTo(9), upTo(4)); break;
            case 17: due("remove(" + a + ")", program.remove(a), model.remove(a)); break;
            case 18: due("split(" + a + ")", program.split(a), model.split(a)); break;
            case 19: due("join()", program.join(), model.join()); break;
            case 20: due("cost()", program.cost(), model.cost()); break;
            case 21: best(upTo(18), someOf(0, 1, 10, 11, 12, 13, 14, 15)); break;
            case 22: change(upTo(2)); break;
            case 23: see(n, a); break;
            case 24: due("forget()", program.forget(), model.forget()); break;
            case 25: rounds(upTo(60), random.nextInt(), upTo(2)); break;
            case 26: due("image()", program.image(), model.image()); break;
            case 27: due("restore()", program.restore(), model.restore()); break;
            default: count(upTo(12)); break;
        }
    }

    private void tape(int place) {
        String tape = model.tape();
        int want = place < 0 || place > 50 ? OUTSIDE : tape.isEmpty() ? STATE
            : place < tape.length() ? tape.charAt(place) : NONE;
        due("tape(" + place + ")", program.tape(place), want);
    }

    private void as(int kind) {
        String[] kinds = {"thsed", "hd", "s", "e", "d"};
        int want = kind < 0 || kind > 4 ? OUTSIDE : model.row.isEmpty() ? STATE
            : kinds[kind].indexOf(model.law) < 0 ? NONE : 1;
        due("as(" + kind + ")", program.as(kind), want);
    }

    private void key(int n, int what) {
        due("key(" + n + ", " + what + ")", program.key(n, what), model.key(n, what));
    }

    private void lane(int lane, int what) {
        due("lane(" + lane + ", " + what + ")", program.lane(lane, what), model.lane(lane, what));
    }

    private void find(int key, int what) {
        due("find(" + key + ", " + what + ")", program.find(key, what), model.find(key, what));
    }

    private void nth(int n, int what) {
        due("nth(" + n + ", " + what + ")", program.nth(n, what), model.nth(n, what));
    }

    private void finger(int n, int key, int what) {
        due("finger(" + n + ", " + key + ", " + what + ")", program.finger(n, key, what), model.finger(n, key, what));
    }

    private void asks(int key, int times) {
        for (int i = 0; i < times; i++) {
            due("ask(" + key + ")", program.ask(key), model.ask(key));
        }
    }

    private void put(int key, int value, int height) {
        due("put(" + key + ", " + value + ", " + height + ")", program.put(key, value, height),
            model.put(key, value, height));
    }

    private void best(int links, int what) {
        due("best(" + links + ", " + what + ")", program.best(links, what), model.best(links, what));
    }

    private void change(int what) {
        due("change(" + what + ")", program.change(what), model.change(what));
    }

    private void see(int n, int key) {
        int looks = upTo(99);
        if (random.nextInt(5) != 0 && n >= 0 && n < model.row.size()) {
            looks = model.look(key, model.with(n, 1 + random.nextInt(4))).looks();
        }
        due("see(" + n + ", " + key + ", " + looks + ")", program.see(n, key, looks), model.see(n, key, looks));
    }

    private void rounds(int times, int seed, int what) {
        due("rounds(" + times + ", " + seed + ", " + what + ")", program.rounds(times, seed, what),
            model.rounds(times, seed, what));
    }

    private void count(int what) {
        due("count(" + what + ")", program.count(what), model.count(what));
    }

    private void run() {
        for (int i = 0; i < 120; i++) {
            if (i == 3 || i > 3 && random.nextInt(60) == 0) {
                read();
            }
            call();
            if (i % 5 == 0) {
                due("digest()", program.digest(), model.digest());
            }
        }
    }

    public static void main(String[] args) {
        int runs = args.length > 0 ? Integer.parseInt(args[0]) : 1500;
        for (int seed = 0; seed < runs; seed++) {
            new ModelTest(seed).run();
        }
        System.out.println(answers + " answers as due in " + runs + " runs");
    }
}
