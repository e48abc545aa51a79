import java.util.ArrayList;
import java.util.HashMap;
import java.util.List;
import java.util.Map;
import java.util.TreeMap;
import java.util.regex.Matcher;
import java.util.regex.Pattern;

/** The document once more, as slow and plain as can be, to hold the class against. */
final class Model {
    private static final int NONE = -1000000, BAD = -1000001, STATE = -1000002, FULL = -1000003;
    private static final List<String> SORTS = List.of("thing", "salt", "fish", "wool", "stone", "whale");
    private static final int[] PARENT = {-1, 0, 1, 1, 0, 4};

    private record Port(int keeps, int half, int top, List<Integer> sorts, List<Integer> weights, List<Integer> sets) {
        Port twin() {
            return new Port(keeps, half, top, sorts, weights, new ArrayList<>(sets));
        }
    }

    private static final class Fault extends RuntimeException {
        private static final long serialVersionUID = 1L;
        final int place;
        final int number;

        Fault(int place, int number) {
            this.place = place;
            this.number = number;
        }
    }

    private record Token(int place, String text) { }

    private final int[][] rows = new int[8][];
    private final int[] lanes = new int[8];
    private final StringBuilder tape = new StringBuilder();
    private final Map<Integer, Port> images = new HashMap<>();
    private final List<Integer> trace = new ArrayList<>();
    private Port port;
    private int fault;
    private int status;

    // ---- rows

    private int found(int finding) {
        status = finding;
        return -1000010 - finding;
    }

    private int fine(int answer) {
        status = 0;
        return answer;
    }

    private static boolean within(int number, int least, int most) {
        return least <= number && number <= most;
    }

    int row(int row, int lane, int n) {
        if (!within(row, 0, 7) || !within(lane, 0, 2) || n > 40) return BAD;
        if (n < 0) return found(4);
        rows[row] = new int[n];
        lanes[row] = lane;
        return fine(n);
    }

    int set(int row, int i, int v) {
        if (!within(row, 0, 7)) return BAD;
        if (rows[row] == null) return found(1);
        if (!within(i, 0, rows[row].length - 1)) return found(2);
        int shift = 32 - (8 << lanes[row]);
        rows[row][i] = v << shift >> shift;
        return fine(rows[row][i]);
    }

    int copy(int a, int i, int b, int j, int n) {
        if (!within(a, 0, 7) || !within(b, 0, 7)) return BAD;
        if (rows[a] == null || rows[b] == null) return found(1);
        if (lanes[a] != lanes[b]) return found(5);
        if (i < 0 || j < 0 || n < 0 || (long) i + n > rows[a].length || (long) j + n > rows[b].length) return found(2);
        int[] ahead = rows[a].clone();
        for (int k = 0; k < n; k++) rows[b][j + k] = ahead[i + k];
        return fine(n);
    }

    int drop(int row) {
        if (!within(row, 0, 7)) return BAD;
        if (rows[row] == null) return found(1);
        int had = rows[row].length;
        rows[row] = null;
        return fine(had);
    }

    // ---- ports, days

    int feed(long w, int n) {
        if (!within(n, 1, 8)) return BAD;
        if (tape.length() + n > 400) return FULL;
        for (int i = n - 1; i >= 0; i--) tape.append((char) (w >>> 8 * i & 255));
        return tape.length();
    }

    int port() {
        String text = tape.toString();
        tape.setLength(0);
        try {
            port = read(text);
            return port.sets().size();
        } catch (Fault f) {
            fault = f.number;
            return -1000100 - f.place;
        }
    }

    private static Port read(String text) {
        List<Token> tokens = new ArrayList<>();
        Matcher m = Pattern.compile("[a-z]+|[0-9]+|[^ \n]").matcher(text);
        while (m.find()) tokens.add(new Token(m.start(), m.group()));
        tokens.add(new Token(text.length(), ""));
        word(tokens, "law");
        int keeps = number(tokens, 0, 3);
        int half = number(tokens, 0, 1);
        int top = number(tokens, 2, 200);
        word(tokens, ";");
        Port read = new Port(keeps, half, top, new ArrayList<>(), new ArrayList<>(), new ArrayList<>());
        while (tokens.get(0).text().equals("thing")) {
            if (read.sorts().size() == 4) throw new Fault(tokens.get(0).place(), 3);
            tokens.remove(0);
            int sort = SORTS.indexOf(tokens.get(0).text());
            if (sort < 1) throw new Fault(tokens.get(0).place(), 1);
            tokens.remove(0);
            read.sorts().add(sort);
            read.weights().add(number(tokens, 0, 7));
            word(tokens, ";");
        }
        while (tokens.get(0).text().equals("day")) {
            if (read.sets().size() == 12) throw new Fault(tokens.get(0).place(), 3);
            tokens.remove(0);
            read.sets().add(number(tokens, 0, (1 << read.sorts().size()) - 1));
            word(tokens, ";");
        }
        word(tokens, "");
        return read;
    }

    private static void word(List<Token> tokens, String word) {
        Token token = tokens.remove(0);
        if (!token.text().equals(word)) throw new Fault(token.place(), 1);
    }

    private static int number(List<Token> tokens, int least, int most) {
        Token token = tokens.remove(0);
        if (!token.text().matches("[0-9]{1,3}")) throw new Fault(token.place(), 1);
        int number = Integer.parseInt(token.text());
        if (!within(number, least, most)) throw new Fault(token.place(), 2);
        return number;
    }

    int fault() {
        return fault;
    }

    private int things() {
        return port == null ? 0 : port.sorts().size();
    }

    private int days() {
        return port == null ? 0 : port.sets().size();
    }

    private int heavyOf(int sort, int weight, int day) {
        if (sort == 2) return Math.max(weight - day / 3, 0);
        if (sort == 3) return weight + day / 4;
        return sort == 5 ? 10 * weight : weight;
    }

    private boolean lies(int thing, int set) {
        return (set & 1 << thing) != 0;
    }

    private int load(List<Integer> weights, List<Integer> sets, int day) {
        int load = 0;
        for (int t = 0; t < things(); t++) {
            if (lies(t, sets.get(day))) load += heavyOf(port.sorts().get(t), weights.get(t), day);
        }
        return load;
    }

    private boolean fresh(List<Integer> sets, int day) {
        for (int t = 0; t < things(); t++) {
            if (lies(t, sets.get(day)) && port.sorts().get(t) == 4) return true;
        }
        return false;
    }

    private List<Integer> loads(List<Integer> weights, List<Integer> sets) {
        List<Integer> loads = new ArrayList<>();
        for (int day = 0; day < sets.size(); day++) loads.add(load(weights, sets, day));
        return loads;
    }

    private List<Integer> shows(List<Integer> loads, List<Integer> sets, int keeps, int half) {
        List<Integer> shows = new ArrayList<>();
        for (int day = 0; day < sets.size(); day++) {
            int sum = loads.get(day);
            for (int k = 1; k <= keeps && day - k >= 0; k++) {
                boolean anew = false;
                for (int behind = day - k + 1; behind <= day; behind++) anew |= fresh(sets, behind);
                if (anew) break;
                int left = loads.get(day - k);
                for (int i = 0; i < k && half == 1; i++) left = left / 2;
                sum += left;
            }
            shows.add(sum % port.top());
        }
        return shows;
    }

    private List<Integer> shows(List<Integer> weights, List<Integer> sets) {
        return shows(loads(weights, sets), sets, port.keeps(), port.half());
    }

    private List<Integer> truth() {
        return shows(port.weights(), port.sets());
    }

    int day(int set) {
        if (port == null) return STATE;
        if (!within(set, 0, (1 << things()) - 1)) return BAD;
        if (days() == 24) return FULL;
        port.sets().add(set);
        return truth().get(days() - 1);
    }

    int undo() {
        if (days() == 0) return STATE;
        port.sets().remove(days() - 1);
        return days();
    }

    int shown(int day, int what) {
        if (!within(day, 0, days() - 1) || !within(what, 0, 3)) return BAD;
        if (what == 0) return port.sets().get(day);
        if (what == 1) return load(port.weights(), port.sets(), day);
        return what == 2 ? truth().get(day) : fresh(port.sets(), day) ? 1 : 0;
    }

    int heavy(int thing, int day) {
        if (!within(thing, 0, things() - 1) || !within(day, -1, 99)) return BAD;
        int weight = port.weights().get(thing);
        return day == -1 ? weight : heavyOf(port.sorts().get(thing), weight, day);
    }

    // ---- foretold

    private List<Integer> more(int... sets) {
        List<Integer> all = new ArrayList<>(port.sets());
        for (int set : sets) all.add(set);
        return all;
    }

    int next(int set) {
        if (port == null) return STATE;
        if (!within(set, 0, (1 << things()) - 1)) return BAD;
        return shows(port.weights(), more(set)).get(days());
    }

    private List<List<Integer>> worlds() {
        List<List<Integer>> worlds = new ArrayList<>();
        worlds.add(new ArrayList<>());
        for (int t = 0; t < things(); t++) {
            List<List<Integer>> longer = new ArrayList<>();
            for (List<Integer> world : worlds) {
                for (int w = 0; w < 8; w++) {
                    List<Integer> one = new ArrayList<>(world);
                    one.add(w);
                    longer.add(one);
                }
            }
            worlds = longer;
        }
        return worlds;
    }

    private int falseDays(List<Integer> shows, int[] row) {
        int bits = 0;
        for (int day = 0; day < shows.size(); day++) {
            if (row[day] != -1 && row[day] != shows.get(day)) bits |= 1 << day;
        }
        return bits;
    }

    private List<List<Integer>> fitting(int[] row) {
        List<List<Integer>> fitting = new ArrayList<>();
        for (List<Integer> world : worlds()) {
            if (falseDays(shows(world, port.sets()), row) == 0) fitting.add(world);
        }
        return fitting;
    }

    private int refused(int row, boolean bad) {
        if (port == null) return STATE;
        if (bad || !within(row, 0, 7)) return BAD;
        if (rows[row] == null) return found(1);
        if (rows[row].length < days()) return found(2);
        for (int day = 0; day < days(); day++) {
            if (rows[row][day] < -1) return BAD;
        }
        return 0;
    }

    int fits(int row, int thing, int w) {
        int refused = refused(row, !within(thing, -1, things() - 1) || !within(w, 0, 7));
        if (refused != 0) return refused;
        int many = 0;
        for (List<Integer> world : fitting(rows[row])) {
            if (thing == -1 || world.get(thing) == w) many++;
        }
        return fine(many);
    }

    private static int only(List<Integer> all) {
        return all.stream().distinct().count() == 1 ? all.get(0) : NONE;
    }

    int sure(int row, int thing) {
        int refused = refused(row, !within(thing, 0, things() - 1));
        if (refused != 0) return refused;
        List<Integer> weights = new ArrayList<>();
        for (List<Integer> world : fitting(rows[row])) weights.add(world.get(thing));
        return fine(only(weights));
    }

    int gap(int row, int day) {
        int refused = refused(row, !within(day, 0, days() - 1));
        if (refused != 0) return refused;
        List<Integer> shown = new ArrayList<>();
        for (List<Integer> world : fitting(rows[row])) shown.add(shows(world, port.sets()).get(day));
        return fine(only(shown));
    }

    int wrong(int row, int what) {
        int refused = refused(row, !within(what, 0, 1));
        if (refused != 0) return refused;
        TreeMap<Long, Integer> sets = new TreeMap<>();
        for (List<Integer> world : worlds()) {
            int bits = falseDays(shows(world, port.sets()), rows[row]);
            sets.put((long) Integer.bitCount(bits) << 32 | bits, bits);
        }
        int least = sets.firstEntry().getValue();
        return fine(what == 0 ? Integer.bitCount(least) : least);
    }

    private boolean alone(List<List<Integer>> among, int... sets) {
        List<Integer> all = more(sets);
        List<Integer> due = shows(port.weights(), all);
        int many = 0;
        for (List<Integer> world : among) {
            if (shows(world, all).equals(due)) many++;
            if (many > 1) return false;
        }
        return many == 1;
    }

    private List<Integer> soonest() {
        List<List<Integer>> among = fitting(truth().stream().mapToInt(i -> i).toArray());
        if (among.size() == 1) return List.of();
        int sets = 1 << things();
        for (int a = 0; a < sets; a++) {
            if (alone(among, a)) return List.of(a);
        }
        for (int a = 0; a < sets; a++) {
            for (int b = 0; b < sets; b++) {
                if (alone(among, a, b)) return List.of(a, b);
            }
        }
        return null;
    }

    int soon(int k) {
        if (port == null) return STATE;
        if (k < -1) return BAD;
        List<Integer> soonest = soonest();
        if (soonest == null) return NONE;
        if (k == -1) return soonest.size();
        return k < soonest.size() ? soonest.get(k) : NONE;
    }

    int laws(int row) {
        int refused = refused(row, false);
        if (refused != 0) return refused;
        int laws = 0;
        for (int keeps = 0; keeps < 4; keeps++) {
            for (int half = 0; half < 2; half++) {
                List<Integer> shows = shows(loads(port.weights(), port.sets()), port.sets(), keeps, half);
                if (falseDays(shows, rows[row]) == 0) laws |= 1 << keeps + 4 * half;
            }
        }
        return fine(laws);
    }

    int error(int day) {
        if (!within(day, 0, days() - 1)) return BAD;
        List<Integer> loads = loads(port.weights(), port.sets());
        loads.set(day, loads.get(day) + 1);
        int[] row = truth().stream().mapToInt(i -> i).toArray();
        return falseDays(shows(loads, port.sets(), port.keeps(), port.half()), row);
    }

    int sold(int thing, int day) {
        if (!within(thing, 0, things() - 1) || !within(day, 1, days() - 1)) return BAD;
        if (!lies(thing, port.sets().get(day))) return BAD;
        return truth().get(day) - truth().get(day - 1) - heavy(thing, day);
    }

    int image(int k) {
        if (!within(k, 0, 1)) return BAD;
        if (port == null) return STATE;
        images.put(k, port.twin());
        return 1;
    }

    int restore(int k) {
        if (!within(k, 0, 1)) return BAD;
        if (!images.containsKey(k)) return STATE;
        port = images.get(k).twin();
        return 1;
    }

    // ---- asked

    int kind(int thing) {
        return within(thing, 0, things() - 1) ? port.sorts().get(thing) : BAD;
    }

    int as(int thing, int kind) {
        if (!within(thing, 0, things() - 1) || !within(kind, 0, 5)) return BAD;
        for (int k = kind(thing); k >= 0; k = PARENT[k]) {
            if (k == kind) return fine(thing);
        }
        return found(3);
    }

    int ask(int thing, int what) {
        if (!within(thing, 0, things() - 1) || !within(what, 0, 1)) return BAD;
        trace.clear();
        return asked(thing, what);
    }

    private int asked(int thing, int what) {
        int[][] bodies = {{10, 11, 11, 12, 13, 14}, {20, 21, 22, 24, 23, 23}};
        return body(thing, bodies[what][kind(thing)]);
    }

    private int body(int thing, int number) {
        if (trace.size() < 16) trace.add(number);
        return switch (number) {
            case 10 -> port.weights().get(thing);
            case 11 -> body(thing, 10) + asked(thing, 1);
            case 12 -> 0 - body(thing, 11);
            case 13 -> body(thing, 10) - 100;
            case 14 -> body(thing, 13) * 2;
            case 20 -> thing;
            case 21 -> body(thing, 20) + days();
            case 22 -> body(thing, 21) - 1000;
            case 23 -> body(thing, 20) - asked(thing, 0);
            default -> body(thing, 21) * 2;
        };
    }

    int trace(int i) {
        return within(i, 0, trace.size() - 1) ? trace.get(i) : NONE;
    }

    int count(int what) {
        int there = 0;
        for (int[] row : rows) there += row == null ? 0 : 1;
        return switch (what) {
            case 0 -> there;
            case 1 -> things();
            case 2 -> days();
            case 3 -> port == null ? 0 : port.keeps();
            case 4 -> port == null ? 0 : port.half();
            case 5 -> port == null ? 0 : port.top();
            case 6 -> tape.length();
            default -> BAD;
        };
    }

    int status() {
        return status;
    }
}
