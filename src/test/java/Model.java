import java.util.ArrayDeque;
import java.util.ArrayList;
import java.util.HashMap;
import java.util.List;
import java.util.Map;
import java.util.regex.Matcher;
import java.util.regex.Pattern;

/**
 * The document told a second time, in other ways than the class takes: columns are cut decimeter by
 * decimeter, texts are read by a regular expression, matchings are found by recursion.
 */
final class Model {
    static final int INVALID = -1000001;
    static final int STATE = -1000002;
    static final int FULL = -1000003;
    static final int NONE = -1000009;

    private static final Pattern TEXT = Pattern.compile(" *[0-3] *: *(?:[a-z] *[1-9][0-9]? *){0,24}; *");

    record Bed(int mark, int thickness) {
    }

    /** One thing that is done: 1 to 4, the bed i of A, the bed j of B, and what j repeats. */
    record Step(int kind, int i, int j, int repeated) {
    }

    record Fault(int ahead, int thrown, int reason) {
    }

    static final class State {
        int[] numbers = {10, 6, 1, 3, 5};
        boolean[] keys = new boolean[26];
        int[] collars = new int[4];
        List<List<Bed>> columns = new ArrayList<>();
        int[] accounts = new int[5];

        State() {
            for (int hole = 0; hole < 4; hole++) {
                columns.add(new ArrayList<>());
            }
        }

        State copy() {
            State copy = new State();
            copy.numbers = numbers.clone();
            copy.keys = keys.clone();
            copy.collars = collars.clone();
            copy.accounts = accounts.clone();
            for (int hole = 0; hole < 4; hole++) {
                copy.columns.set(hole, new ArrayList<>(columns.get(hole)));
            }
            return copy;
        }

        int beds() {
            return columns.stream().mapToInt(List::size).sum();
        }
    }

    State now = new State();
    final ArrayDeque<State> saved = new ArrayDeque<>();
    final State[] images = new State[2];
    String text = "";
    private final Map<Integer, List<Step>> known = new HashMap<>();

    private void save() {
        known.clear();
        saved.addLast(now.copy());
        if (saved.size() > 6) {
            saved.removeFirst();
        }
    }

    private static boolean in(int value, int from, int to) {
        return from <= value && value <= to;
    }

    static int length(List<Bed> column) {
        return depth(column, column.size());
    }

    static int depth(List<Bed> column, int bed) {
        int depth = 0;
        for (Bed above : column.subList(0, bed)) {
            depth += above.thickness();
        }
        return depth;
    }

    int setNumber(int what, int value) {
        int[] from = {1, 1, 0, 1, 1};
        int[] to = {99, 99, 9, 8, 999};
        if (!in(what, 0, 4) || !in(value, from[what], to[what])) {
            return INVALID;
        }
        save();
        int previous = now.numbers[what];
        now.numbers[what] = value;
        return previous;
    }

    int setKey(int mark, int is) {
        if (!in(mark, 0, 25) || !in(is, 0, 1)) {
            return INVALID;
        }
        save();
        int previous = now.keys[mark] ? 1 : 0;
        now.keys[mark] = is == 1;
        return previous;
    }

    int setCollar(int hole, int elevation) {
        if (!in(hole, 0, 3) || !in(elevation, -9999, 9999)) {
            return INVALID;
        }
        save();
        int previous = now.collars[hole];
        now.collars[hole] = elevation;
        return previous;
    }

    int addBed(int hole, int index, int mark, int thickness) {
        if (!in(hole, 0, 3) || !in(mark, 0, 25) || !in(thickness, 1, 99)
                || !in(index, 0, now.columns.get(hole).size())) {
            return INVALID;
        }
        if (now.columns.get(hole).size() == 24) {
            return FULL;
        }
        save();
        now.columns.get(hole).add(index, new Bed(mark, thickness));
        now.accounts[1] += thickness;
        return now.columns.get(hole).size();
    }

    int removeBed(int hole, int bed) {
        if (!in(hole, 0, 3) || !in(bed, 0, now.columns.get(hole).size() - 1)) {
            return INVALID;
        }
        save();
        int thickness = now.columns.get(hole).remove(bed).thickness();
        now.accounts[2] += thickness;
        return thickness;
    }

    int setThickness(int hole, int bed, int thickness) {
        if (!in(hole, 0, 3) || !in(bed, 0, now.columns.get(hole).size() - 1) || !in(thickness, 1, 99)) {
            return INVALID;
        }
        save();
        Bed old = now.columns.get(hole).get(bed);
        now.columns.get(hole).set(bed, new Bed(old.mark(), thickness));
        if (thickness > old.thickness()) {
            now.accounts[1] += thickness - old.thickness();
        } else {
            now.accounts[2] += old.thickness() - thickness;
        }
        return old.thickness();
    }

    /** Each decimeter told by the bed it lies in. */
    private static List<Integer> decimeters(List<Bed> column) {
        List<Integer> decimeters = new ArrayList<>();
        for (int bed = 0; bed < column.size(); bed++) {
            for (int k = 0; k < column.get(bed).thickness(); k++) {
                decimeters.add(bed);
            }
        }
        return decimeters;
    }

    private static void addParts(List<Bed> to, List<Bed> column, List<Integer> decimeters) {
        for (int at = 0; at < decimeters.size(); ) {
            int end = at;
            while (end < decimeters.size() && decimeters.get(end).equals(decimeters.get(at))) {
                end++;
            }
            to.add(new Bed(column.get(decimeters.get(at)).mark(), end - at));
            at = end;
        }
    }

    int cut(int hole, int depth, int by) {
        if (!in(hole, 0, 3)) {
            return INVALID;
        }
        List<Bed> column = now.columns.get(hole);
        List<Integer> all = decimeters(column);
        if (!in(depth, 1, all.size() - 1) || !in(by, -depth, 9999) || by == 0) {
            return INVALID;
        }
        List<Bed> parts = new ArrayList<>();
        addParts(parts, column, all.subList(0, depth));
        int taken = 0;
        int repeated = 0;
        if (by < 0) {
            repeated = -by;
            addParts(parts, column, all.subList(depth + by, depth));
            addParts(parts, column, all.subList(depth, all.size()));
        } else {
            taken = all.size() - depth < by ? all.size() - depth : by;
            addParts(parts, column, all.subList(depth + taken, all.size()));
        }
        if (parts.size() > 24) {
            return FULL;
        }
        save();
        now.columns.set(hole, parts);
        now.accounts[3] += taken;
        now.accounts[4] += repeated;
        return parts.size();
    }

    int appendCharacter(int character) {
        if (!in(character, 0, 255)) {
            return INVALID;
        }
        if (text.length() == 100) {
            return FULL;
        }
        text += (char) character;
        return text.length();
    }

    int clearText() {
        int length = text.length();
        text = "";
        return length;
    }

    int load() {
        if (!TEXT.matcher(text).matches()) {
            for (int end = 1; end <= text.length(); end++) {
                Matcher start = TEXT.matcher(text.substring(0, end));
                if (!start.matches() && !start.hitEnd()) {
                    return -2000000 - (end - 1);
                }
            }
            return -2000000 - text.length();
        }
        save();
        String plain = text.replace(" ", "");
        int hole = plain.charAt(0) - '0';
        now.accounts[2] += length(now.columns.get(hole));
        List<Bed> column = new ArrayList<>();
        Matcher bed = Pattern.compile("([a-z])([0-9]+)").matcher(plain);
        while (bed.find()) {
            column.add(new Bed(bed.group(1).charAt(0) - 'a', Integer.parseInt(bed.group(2))));
        }
        now.columns.set(hole, column);
        now.accounts[1] += length(column);
        text = "";
        return column.size();
    }

    int keep(int image) {
        if (!in(image, 0, 1)) {
            return INVALID;
        }
        images[image] = now.copy();
        return now.beds();
    }

    int back(int image) {
        if (!in(image, 0, 1)) {
            return INVALID;
        }
        if (images[image] == null) {
            return STATE;
        }
        save();
        now = images[image].copy();
        return now.beds();
    }

    int undo() {
        if (saved.isEmpty()) {
            return STATE;
        }
        known.clear();
        now = saved.removeLast();
        return saved.size();
    }

    int count(int what) {
        if (in(what, 0, 4)) {
            return now.numbers[what];
        }
        int keys = 0;
        for (boolean key : now.keys) {
            keys += key ? 1 : 0;
        }
        return switch (what) {
            case 5 -> keys;
            case 6 -> now.beds();
            case 7 -> text.length();
            case 8 -> saved.size();
            case 9 -> (images[0] == null ? 0 : 1) + (images[1] == null ? 0 : 2);
            default -> INVALID;
        };
    }

    int hole(int hole, int what) {
        if (!in(hole, 0, 3) || !in(what, 0, 2)) {
            return INVALID;
        }
        List<Bed> column = now.columns.get(hole);
        return what == 0 ? now.collars[hole] : what == 1 ? column.size() : length(column);
    }

    int bed(int hole, int bed, int what) {
        if (!in(hole, 0, 3) || !in(what, 0, 3) || bed < 0) {
            return INVALID;
        }
        List<Bed> column = now.columns.get(hole);
        if (bed >= column.size()) {
            return NONE;
        }
        return switch (what) {
            case 0 -> column.get(bed).mark();
            case 1 -> column.get(bed).thickness();
            case 2 -> depth(column, bed);
            default -> now.collars[hole] - depth(column, bed);
        };
    }

    int find(int hole, int mark, int which) {
        if (!in(hole, 0, 3) || !in(mark, 0, 25) || which < 0) {
            return INVALID;
        }
        List<Integer> found = new ArrayList<>();
        for (int bed = 0; bed < now.columns.get(hole).size(); bed++) {
            if (now.columns.get(hole).get(bed).mark() == mark) {
                found.add(bed);
            }
        }
        return which < found.size() ? found.get(which) : NONE;
    }

    int account(int what) {
        if (!in(what, 0, 4)) {
            return INVALID;
        }
        return what > 0 ? now.accounts[what] : now.columns.stream().mapToInt(Model::length).sum();
    }

    private List<Step> possible(int a, int b, int i, int j) {
        List<Bed> columnA = now.columns.get(a);
        List<Bed> columnB = now.columns.get(b);
        List<Step> steps = new ArrayList<>();
        boolean moreA = i < columnA.size();
        boolean moreB = j < columnB.size();
        if (moreA && moreB && columnA.get(i).mark() == columnB.get(j).mark()) {
            steps.add(new Step(1, i, j, NONE));
        }
        if (moreA) {
            steps.add(new Step(2, i, j, NONE));
        }
        for (int bed = i - 1; moreB && bed >= 0 && bed >= i - now.numbers[3]; bed--) {
            if (columnA.get(bed).mark() == columnB.get(j).mark()) {
                steps.add(new Step(3, i, j, bed));
                break;
            }
        }
        if (moreB) {
            steps.add(new Step(4, i, j, NONE));
        }
        return steps;
    }

    private int costOf(int a, int b, Step step) {
        int m = now.numbers[0];
        int u = now.numbers[2];
        List<Bed> columnA = now.columns.get(a);
        List<Bed> columnB = now.columns.get(b);
        if (step.kind() == 2) {
            return now.keys[columnA.get(step.i()).mark()] ? 3 * m : m;
        }
        Bed bed = columnB.get(step.j());
        if (step.kind() == 4) {
            return now.keys[bed.mark()] ? 3 * m : m;
        }
        if (step.kind() == 3) {
            return now.numbers[1] + u * Math.abs(columnA.get(step.repeated()).thickness() - bed.thickness());
        }
        return u * Math.abs(columnA.get(step.i()).thickness() - bed.thickness());
    }

    private static int nextI(Step step) {
        return step.kind() <= 2 ? step.i() + 1 : step.i();
    }

    private static int nextJ(Step step) {
        return step.kind() == 2 ? step.j() : step.j() + 1;
    }

    private int rest(int a, int b, int i, int j, Integer[][] known) {
        if (known[i][j] == null) {
            int best = Integer.MAX_VALUE;
            for (Step step : possible(a, b, i, j)) {
                best = Math.min(best, costOf(a, b, step) + rest(a, b, nextI(step), nextJ(step), known));
            }
            known[i][j] = best == Integer.MAX_VALUE ? 0 : best;
        }
        return known[i][j];
    }

    int leastCost(int a, int b) {
        return steps(a, b).stream().mapToInt(step -> costOf(a, b, step)).sum();
    }

    /** The steps of the matching, from the top down; known until the state changes. */
    List<Step> steps(int a, int b) {
        List<Step> steps = known.get(10 * a + b);
        if (steps == null) {
            steps = stepsByRecursion(a, b);
            known.put(10 * a + b, steps);
        }
        return steps;
    }

    private List<Step> stepsByRecursion(int a, int b) {
        Integer[][] known = new Integer[25][25];
        int left = rest(a, b, 0, 0, known);
        List<Step> done = new ArrayList<>();
        int i = 0;
        int j = 0;
        while (i < now.columns.get(a).size() || j < now.columns.get(b).size()) {
            for (Step step : possible(a, b, i, j)) {
                int after = left - costOf(a, b, step);
                if (after == rest(a, b, nextI(step), nextJ(step), known)) {
                    done.add(step);
                    left = after;
                    i = nextI(step);
                    j = nextJ(step);
                    break;
                }
            }
        }
        return done;
    }

    /** The same, found by going through every way there is: for short columns alone. */
    List<Step> stepsByEveryWay(int a, int b) {
        List<Step> best = new ArrayList<>();
        everyWay(a, b, 0, 0, 0, new ArrayList<>(), best, new int[] {Integer.MAX_VALUE});
        return best;
    }

    private void everyWay(int a, int b, int i, int j, int cost, List<Step> way, List<Step> best, int[] least) {
        List<Step> steps = possible(a, b, i, j);
        if (steps.isEmpty() && cost < least[0]) {
            least[0] = cost;
            best.clear();
            best.addAll(way);
        }
        for (Step step : steps) {
            way.add(step);
            everyWay(a, b, nextI(step), nextJ(step), cost + costOf(a, b, step), way, best, least);
            way.remove(way.size() - 1);
        }
    }

    private static boolean pair(int a, int b) {
        return in(a, 0, 3) && in(b, 0, 3) && a != b;
    }

    int cost(int a, int b, int way) {
        return pair(a, b) && in(way, 0, 1) ? leastCost(a, b) : INVALID;
    }

    private Step stepOf(int a, int b, int side, int bed) {
        for (Step step : steps(a, b)) {
            if (side == 0 && step.kind() <= 2 && step.i() == bed || side == 1 && step.kind() != 2 && step.j() == bed) {
                return step;
            }
        }
        throw new IllegalStateException("a bed that is never read");
    }

    private boolean bedOf(int a, int b, int side, int bed) {
        return pair(a, b) && in(side, 0, 1) && in(bed, 0, now.columns.get(side == 0 ? a : b).size() - 1);
    }

    int why(int a, int b, int side, int bed) {
        return bedOf(a, b, side, bed) ? stepOf(a, b, side, bed).kind() : INVALID;
    }

    int partner(int a, int b, int side, int bed) {
        if (!bedOf(a, b, side, bed)) {
            return INVALID;
        }
        Step step = stepOf(a, b, side, bed);
        return switch (step.kind()) {
            case 1 -> side == 0 ? step.j() : step.i();
            case 3 -> step.repeated();
            default -> NONE;
        };
    }

    int matched(int a, int b, int what) {
        if (!pair(a, b) || !in(what, 1, 5)) {
            return INVALID;
        }
        if (what == 5) {
            return faults(a, b, now.numbers[4]).size();
        }
        return (int) steps(a, b).stream().filter(step -> step.kind() == what).count();
    }

    /** The throws that are, without sign, at least so great; of 0 all that there are. */
    private List<Fault> faults(int a, int b, int least) {
        List<Fault> faults = new ArrayList<>();
        Step last = null;
        int reason = 0;
        int thickA = 0;
        int thickB = 0;
        for (Step step : steps(a, b)) {
            if (step.kind() == 1 && last != null && Math.abs(thickA - thickB) >= least) {
                faults.add(new Fault(last.i(), thickA - thickB, reason));
            }
            if (step.kind() == 1) {
                last = step;
                reason = 0;
                thickA = 0;
                thickB = 0;
            } else {
                reason |= step.kind() == 2 ? 1 : step.kind() == 3 ? 2 : 4;
            }
            thickA += step.kind() <= 2 ? now.columns.get(a).get(step.i()).thickness() : 0;
            thickB += step.kind() != 2 ? now.columns.get(b).get(step.j()).thickness() : 0;
        }
        return faults;
    }

    int fault(int a, int b, int index, int what) {
        if (!pair(a, b) || index < 0 || !in(what, 0, 2)) {
            return INVALID;
        }
        List<Fault> faults = faults(a, b, now.numbers[4]);
        if (index >= faults.size()) {
            return NONE;
        }
        Fault fault = faults.get(index);
        return what == 0 ? fault.ahead() : what == 1 ? fault.thrown() : fault.reason();
    }

    int sumOfThrows(int a, int b, int what) {
        if (!pair(a, b) || !in(what, 0, 2)) {
            return INVALID;
        }
        if (matched(a, b, 1) == 0) {
            return NONE;
        }
        int least = what == 1 ? now.numbers[4] : 0;
        return faults(a, b, least).stream().mapToInt(Fault::thrown).sum();
    }

    int nearest(int hole, int what) {
        if (!in(hole, 0, 3) || !in(what, 0, 1)) {
            return INVALID;
        }
        int best = -1;
        for (int other = 3; other >= 0; other--) {
            if (other != hole && (best < 0 || leastCost(hole, other) <= leastCost(hole, best))) {
                best = other;
            }
        }
        return what == 0 ? best : leastCost(hole, best);
    }

    int closed(int a, int b, int c) {
        if (!pair(a, b) || !pair(a, c) || !pair(b, c)) {
            return INVALID;
        }
        int beds = 0;
        for (Step first : steps(a, b)) {
            for (Step second : steps(b, c)) {
                for (Step third : steps(a, c)) {
                    if (first.kind() == 1 && second.kind() == 1 && third.kind() == 1 && first.j() == second.i()
                            && second.j() == third.j() && first.i() == third.i()) {
                        beds++;
                    }
                }
            }
        }
        return beds;
    }
}
