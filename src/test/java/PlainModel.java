import java.util.ArrayList;
import java.util.Collections;
import java.util.HashMap;
import java.util.List;
import java.util.Map;
import java.util.NoSuchElementException;

/**
 * The document once more, as slow and as plain as can be: points are found by trying all corners,
 * bounds value by value, and everything is kept in lists. RandomRunsTest holds the class against it.
 */
final class PlainModel {
    /** A fraction in lowest terms with a bottom greater than 0. */
    record Frac(long top, long bottom) implements Comparable<Frac> {
        static Frac of(long top, long bottom) {
            long a = Math.abs(top);
            long b = Math.abs(bottom);
            while (b != 0) {
                long rest = a % b;
                a = b;
                b = rest;
            }
            long sign = bottom < 0 ? -1 : 1;
            return new Frac(sign * top / a, sign * bottom / a);
        }

        static Frac of(long whole) {
            return new Frac(whole, 1);
        }

        Frac plus(Frac o) {
            return of(Math.addExact(Math.multiplyExact(top, o.bottom), Math.multiplyExact(o.top, bottom)),
                    Math.multiplyExact(bottom, o.bottom));
        }

        Frac minus(Frac o) {
            return plus(new Frac(-o.top, o.bottom));
        }

        Frac times(Frac o) {
            return of(Math.multiplyExact(top, o.top), Math.multiplyExact(bottom, o.bottom));
        }

        Frac over(Frac o) {
            return of(Math.multiplyExact(top, o.bottom), Math.multiplyExact(bottom, o.top));
        }

        public int compareTo(Frac o) {
            return Long.compare(Math.multiplyExact(top, o.bottom), Math.multiplyExact(o.top, bottom));
        }

        long floor() {
            long down = top / bottom;
            return down * bottom > top ? down - 1 : down;
        }

        boolean isWhole() {
            return bottom == 1;
        }

        long told() {
            return 100000 * top + bottom;
        }

        float asFloat() {
            return (float) top / (float) bottom;
        }
    }

    record Col(int cost, int lower, int upper, boolean isWhole) { }

    record Line(char sense, int side, List<Integer> co) {
        Frac sum(List<Frac> x) {
            Frac sum = Frac.of(0);
            for (int j = 0; j < x.size(); j++) {
                sum = sum.plus(Frac.of(co.get(j)).times(x.get(j)));
            }
            return sum;
        }

        boolean holds(List<Frac> x) {
            int c = sum(x).compareTo(Frac.of(side));
            return sense == 'l' ? c <= 0 : sense == 'g' ? c >= 0 : c == 0;
        }

        Line turned() {
            return new Line('l', -side, co.stream().map(v -> -v).toList());
        }

        List<Line> halves() {
            Line plain = new Line('l', side, co);
            return sense == 'l' ? List.of(plain) : sense == 'g' ? List.of(turned()) : List.of(plain, turned());
        }

        Line forCut() {
            return halves().get(0);
        }

        Line exchanged(int i, int k) {
            List<Integer> other = new ArrayList<>(co);
            Collections.swap(other, i, k);
            return new Line(sense, side, other);
        }
    }

    static final class Knot {
        int parent = -1;
        int column = -1;
        boolean isUp;
        char state = 'o';
        int[] lo;
        int[] hi;
        List<Frac> x;
        Frac value;
    }

    static final class Slice {
        char kind;
        Line line;
        int age;
        int home;
        int one;
        int two;
    }

    /** Things that happened, so that a test can tell that it saw the rare ones. */
    final Map<String, Integer> seen = new HashMap<>();

    private final List<Col> cols = new ArrayList<>();
    private final List<Line> lines = new ArrayList<>();
    private final List<Integer> tightLo = new ArrayList<>();
    private final List<Integer> tightHi = new ArrayList<>();
    private List<Knot> knots = new ArrayList<>();
    private List<Slice> slices = new ArrayList<>();
    private final Map<String, List<Long>> gains = new HashMap<>();
    private char order;
    private char rule;
    private List<Frac> bestX;

    private void see(String what) {
        seen.merge(what, 1, Integer::sum);
    }

    public int addColumn(int cost, int lower, int upper, boolean isWhole) {
        if (cost < -9 || cost > 9 || lower < -9 || lower > 9 || upper < lower || upper > 9) {
            throw new IllegalArgumentException();
        }
        if (cols.size() == 4 || !lines.isEmpty() || !knots.isEmpty()) {
            throw new IllegalStateException();
        }
        cols.add(new Col(cost, lower, upper, isWhole));
        tightLo.add(lower);
        tightHi.add(upper);
        return cols.size() - 1;
    }

    public int addRow(char sense, int side, int a, int b, int c, int d) {
        List<Integer> co = List.of(a, b, c, d);
        if ("lge".indexOf(sense) < 0 || Math.abs((long) side) > 99) {
            throw new IllegalArgumentException();
        }
        for (int j = 0; j < 4; j++) {
            if (Math.abs((long) co.get(j)) > 5 || (co.get(j) != 0 && j >= cols.size())) {
                throw new IllegalArgumentException();
            }
        }
        if (lines.size() == 8) {
            throw new IllegalStateException();
        }
        Line line = new Line(sense, side, co);
        lines.add(line);
        if (!knots.isEmpty()) {
            boolean isLost = bestX != null && !line.holds(bestX);
            boolean isUnlike = false;
            for (Slice s : slices) {
                if (s.kind == 'y' && !areAlike(s.one, s.two)) {
                    isUnlike = true;
                    see(s.age == 4 ? "unlike by a dropped cut" : "unlike");
                }
            }
            if (isLost) {
                see("best lost");
                bestX = null;
            }
            if (isLost || isUnlike) {
                if (isUnlike && bestX != null) {
                    see("begun anew with the best solution");
                }
                plant();
            } else {
                see("tree stays");
            }
        }
        return lines.size() - 1;
    }

    private int leastSum(Line l, int except, List<Integer> lo, List<Integer> hi) {
        int sum = 0;
        for (int j = 0; j < cols.size(); j++) {
            if (j != except) {
                sum += Math.min(l.co.get(j) * lo.get(j), l.co.get(j) * hi.get(j));
            }
        }
        return sum;
    }

    public int tighten() {
        if (!knots.isEmpty()) {
            throw new IllegalStateException();
        }
        List<Integer> lo = new ArrayList<>(tightLo);
        List<Integer> hi = new ArrayList<>(tightHi);
        boolean isMoving = true;
        while (isMoving) {
            isMoving = false;
            for (Line row : lines) {
                for (Line half : row.halves()) {
                    for (int j = 0; j < cols.size(); j++) {
                        int co = half.co.get(j);
                        if (!cols.get(j).isWhole || co == 0) {
                            continue;
                        }
                        int rest = leastSum(half, j, lo, hi);
                        while (lo.get(j) <= hi.get(j) && co * lo.get(j) + rest > half.side) {
                            lo.set(j, lo.get(j) + 1);
                            isMoving = true;
                        }
                        while (lo.get(j) <= hi.get(j) && co * hi.get(j) + rest > half.side) {
                            hi.set(j, hi.get(j) - 1);
                            isMoving = true;
                        }
                        if (lo.get(j) > hi.get(j)) {
                            see("tighten empties a column");
                            throw new UnsupportedOperationException();
                        }
                    }
                }
            }
        }
        int changed = 0;
        for (int j = 0; j < cols.size(); j++) {
            changed += tightLo.get(j).equals(lo.get(j)) ? 0 : 1;
            changed += tightHi.get(j).equals(hi.get(j)) ? 0 : 1;
            tightLo.set(j, lo.get(j));
            tightHi.set(j, hi.get(j));
        }
        if (changed > 0) {
            see("tightened");
        }
        return changed;
    }

    private void needColumn(int column) {
        if (column < 0 || column >= cols.size()) {
            throw new IndexOutOfBoundsException();
        }
    }

    public int lower(int column) {
        needColumn(column);
        return tightLo.get(column);
    }

    public int upper(int column) {
        needColumn(column);
        return tightHi.get(column);
    }

    public boolean areAlike(int column, int other) {
        needColumn(column);
        needColumn(other);
        List<String> plain = new ArrayList<>();
        List<String> exchanged = new ArrayList<>();
        for (Line l : lines) {
            plain.add(l.toString());
            exchanged.add(l.exchanged(column, other).toString());
        }
        Collections.sort(plain);
        Collections.sort(exchanged);
        return cols.get(column).equals(cols.get(other)) && plain.equals(exchanged);
    }

    public int unkept() {
        List<Integer> set = new ArrayList<>();
        for (int k = 0; k < lines.size(); k++) {
            set.add(k);
        }
        if (canHold(set)) {
            throw new NoSuchElementException();
        }
        for (int k = 0; k < lines.size(); k++) {
            List<Integer> without = new ArrayList<>(set);
            without.remove((Integer) k);
            if (!canHold(without)) {
                set = without;
            }
        }
        int bits = 0;
        for (int k : set) {
            bits += 1 << k;
        }
        see("unkept");
        return bits;
    }

    private boolean canHold(List<Integer> set) {
        List<Line> all = new ArrayList<>();
        for (int k : set) {
            all.addAll(lines.get(k).halves());
        }
        int[] lo = cols.stream().mapToInt(Col::lower).toArray();
        int[] hi = cols.stream().mapToInt(Col::upper).toArray();
        return bestCorner(lo, hi, all) != null;
    }

    /** The best corner of all points in the bounds that keep all lines of sense 'l', or null. */
    private List<Frac> bestCorner(int[] lo, int[] hi, List<Line> given) {
        int n = cols.size();
        List<Line> all = new ArrayList<>();
        for (int j = 0; j < n; j++) {
            Integer[] unit = {0, 0, 0, 0};
            unit[j] = 1;
            all.add(new Line('l', hi[j], List.of(unit)));
            all.add(new Line('g', lo[j], List.of(unit)).turned());
        }
        for (Line l : given) {
            if (l.co.stream().allMatch(v -> v == 0)) {
                if (l.side < 0) {
                    return null;
                }
            } else if (!all.contains(l)) {
                all.add(l);
            }
        }
        List<Frac> best = null;
        int[] pick = new int[n];
        for (int k = 0; k < n; k++) {
            pick[k] = k;
        }
        while (true) {
            List<Frac> x = corner(all, pick);
            if (x != null && (best == null || isBefore(x, best))) {
                best = x;
            }
            int k = n - 1;
            while (k >= 0 && pick[k] == all.size() - n + k) {
                k--;
            }
            if (k < 0) {
                return best;
            }
            pick[k]++;
            for (int j = k + 1; j < n; j++) {
                pick[j] = pick[j - 1] + 1;
            }
        }
    }

    private boolean isBefore(List<Frac> x, List<Frac> y) {
        int c = cost(x).compareTo(cost(y));
        for (int j = 0; j < x.size() && c == 0; j++) {
            c = x.get(j).compareTo(y.get(j));
        }
        return c < 0;
    }

    private Frac cost(List<Frac> x) {
        Frac sum = Frac.of(0);
        for (int j = 0; j < x.size(); j++) {
            sum = sum.plus(Frac.of(cols.get(j).cost).times(x.get(j)));
        }
        return sum;
    }

    /** Where the picked lines meet, by Cramer's rule, if that is a point that keeps all; or null. */
    private static List<Frac> corner(List<Line> all, int[] pick) {
        int n = pick.length;
        long[][] m = new long[n][n];
        long[] sides = new long[n];
        for (int r = 0; r < n; r++) {
            for (int j = 0; j < n; j++) {
                m[r][j] = all.get(pick[r]).co.get(j);
            }
            sides[r] = all.get(pick[r]).side;
        }
        long bottom = determinant(m);
        if (bottom == 0) {
            return null;
        }
        long[] tops = new long[n];
        for (int j = 0; j < n; j++) {
            long[][] other = new long[n][];
            for (int r = 0; r < n; r++) {
                other[r] = m[r].clone();
                other[r][j] = sides[r];
            }
            tops[j] = determinant(other) * (bottom < 0 ? -1 : 1);
        }
        bottom = Math.abs(bottom);
        for (Line l : all) {
            long sum = 0;
            for (int j = 0; j < n; j++) {
                sum += l.co.get(j) * tops[j];
            }
            if (sum > l.side * bottom) {
                return null;
            }
        }
        List<Frac> x = new ArrayList<>();
        for (long top : tops) {
            x.add(Frac.of(top, bottom));
        }
        return x;
    }

    private static long determinant(long[][] m) {
        int n = m.length;
        if (n == 0) {
            return 1;
        }
        long sum = 0;
        for (int j = 0; j < n; j++) {
            if (m[0][j] == 0) {
                continue;
            }
            long[][] less = new long[n - 1][n - 1];
            for (int r = 1; r < n; r++) {
                for (int k = 0; k < n - 1; k++) {
                    less[r - 1][k] = m[r][k < j ? k : k + 1];
                }
            }
            sum += (j % 2 == 0 ? 1 : -1) * m[0][j] * determinant(less);
        }
        return sum;
    }

    public int begin(char newOrder, char newRule) {
        if ("bd".indexOf(newOrder) < 0 || "fhl".indexOf(newRule) < 0) {
            throw new IllegalArgumentException();
        }
        if (cols.isEmpty()) {
            throw new IllegalStateException();
        }
        order = newOrder;
        rule = newRule;
        bestX = null;
        plant();
        return (int) cols.stream().filter(Col::isWhole).count();
    }

    private void plant() {
        knots = new ArrayList<>();
        slices = new ArrayList<>();
        gains.clear();
        Knot root = new Knot();
        root.lo = tightLo.stream().mapToInt(v -> v).toArray();
        root.hi = tightHi.stream().mapToInt(v -> v).toArray();
        knots.add(root);
    }

    public int solve(int nodes) {
        if (nodes < 1 || nodes > 41) {
            throw new IllegalArgumentException();
        }
        if (knots.isEmpty()) {
            throw new IllegalStateException();
        }
        int done = 0;
        while (done < nodes) {
            int next = -1;
            for (int k = 0; k < knots.size(); k++) {
                if (knots.get(k).state != 'o') {
                    continue;
                }
                if (next < 0 || order == 'd'
                        || parentValue(k).compareTo(parentValue(next)) < 0) {
                    next = k;
                }
            }
            if (next < 0 || !solveOne(next)) {
                break;
            }
            done++;
        }
        return done;
    }

    private Frac parentValue(int k) {
        return knots.get(knots.get(k).parent).value;
    }

    private boolean isUnder(int node, int home) {
        while (node > home) {
            node = knots.get(node).parent;
        }
        return node == home;
    }

    private List<Slice> slicesAt(int node) {
        List<Slice> there = new ArrayList<>();
        for (Slice s : slices) {
            if (s.age < 4 && isUnder(node, s.home)) {
                there.add(s);
            }
        }
        return there;
    }

    private boolean solveOne(int number) {
        Knot node = knots.get(number);
        List<Line> all = new ArrayList<>();
        lines.forEach(l -> all.addAll(l.halves()));
        slicesAt(number).forEach(s -> all.add(s.line));
        List<Frac> x = bestCorner(node.lo, node.hi, all);
        if (x == null) {
            node.state = 'i';
            see("no point");
            conflict(number);
            return true;
        }
        Frac value = cost(x);
        boolean isBound = bestX != null && value.compareTo(cost(bestX)) >= 0;
        List<Integer> broken = new ArrayList<>();
        for (int j = 0; j < cols.size(); j++) {
            if (cols.get(j).isWhole && !x.get(j).isWhole()) {
                broken.add(j);
            }
        }
        if (!isBound && !broken.isEmpty() && knots.size() + 2 > 41) {
            see("too many nodes");
            return false;
        }
        node.x = x;
        node.value = value;
        for (Slice s : slicesAt(number)) {
            s.age = s.line.sum(x).equals(Frac.of(s.line.side)) ? 0 : s.age + 1;
            if (s.age == 4) {
                see("dropped");
            }
        }
        if (node.parent >= 0) {
            long gain = value.minus(parentValue(number)).floor();
            gains.computeIfAbsent(node.column + "" + node.isUp, k -> new ArrayList<>()).add(gain);
            if (gain < 0) {
                see("negative gain");
            }
        }
        if (isBound) {
            node.state = 'b';
        } else if (broken.isEmpty()) {
            node.state = 's';
            bestX = x;
        } else {
            node.state = 'p';
            branch(number, broken);
        }
        see("state " + node.state);
        return true;
    }

    private void branch(int number, List<Integer> broken) {
        Knot node = knots.get(number);
        int chosen = broken.get(0);
        for (int j : broken) {
            if (rule == 'h' && toMiddle(node.x.get(j)).compareTo(toMiddle(node.x.get(chosen))) < 0) {
                chosen = j;
            }
            if (rule == 'l' && score(j) > score(chosen)) {
                chosen = j;
                see("rule l chose a later column");
            }
        }
        int floor = (int) node.x.get(chosen).floor();
        for (int side = 0; side < 2; side++) {
            Knot child = new Knot();
            child.parent = number;
            child.column = chosen;
            child.isUp = side == 1;
            child.lo = node.lo.clone();
            child.hi = node.hi.clone();
            if (side == 0) {
                child.hi[chosen] = floor;
            } else {
                child.lo[chosen] = floor + 1;
            }
            knots.add(child);
        }
    }

    private static Frac toMiddle(Frac v) {
        Frac d = v.minus(Frac.of(v.floor())).minus(Frac.of(1, 2));
        return d.top < 0 ? Frac.of(0).minus(d) : d;
    }

    private int score(int j) {
        return Math.min(gain(j, false), gain(j, true));
    }

    private void conflict(int number) {
        List<Integer> on = new ArrayList<>();
        for (int at = number; at > 0; at = knots.get(at).parent) {
            on.add(knots.get(at).column);
        }
        if (on.isEmpty() || slices.size() >= 16) {
            return;
        }
        for (int j : on) {
            if (!is01(j)) {
                return;
            }
        }
        Integer[] co = {0, 0, 0, 0};
        int ones = 0;
        for (int j = 0; j < cols.size(); j++) {
            if (on.contains(j) && knots.get(number).lo[j] == 1 && knots.get(number).hi[j] == 1) {
                co[j] = 1;
                ones++;
            }
            if (on.contains(j) && knots.get(number).lo[j] == 0 && knots.get(number).hi[j] == 0) {
                co[j] = -1;
            }
        }
        keep('k', new Line('l', ones - 1, List.of(co)), 0);
    }

    private boolean is01(int j) {
        return cols.get(j).isWhole && cols.get(j).lower == 0 && cols.get(j).upper == 1;
    }

    private int keep(char kind, Line line, int home) {
        Slice s = new Slice();
        s.kind = kind;
        s.line = line;
        s.home = home;
        slices.add(s);
        see("cut " + kind);
        if (line.co.stream().anyMatch(v -> v > 1) && kind == 'c') {
            see("lifted to more than 1");
        }
        return slices.size() - 1;
    }

    public int nodes() {
        return knots.size();
    }

    public int open() {
        return (int) knots.stream().filter(k -> k.state == 'o').count();
    }

    private Knot needNode(int node) {
        if (node < 0 || node >= knots.size()) {
            throw new IndexOutOfBoundsException();
        }
        return knots.get(node);
    }

    private Knot needPoint(int node) {
        Knot k = needNode(node);
        if (k.x == null) {
            throw new NoSuchElementException();
        }
        return k;
    }

    public char state(int node) {
        return needNode(node).state;
    }

    public int parent(int node) {
        int above = needNode(node).parent;
        if (above < 0) {
            throw new NoSuchElementException();
        }
        return above;
    }

    public int lowerAt(int node, int column) {
        Knot k = needNode(node);
        needColumn(column);
        return k.lo[column];
    }

    public int upperAt(int node, int column) {
        Knot k = needNode(node);
        needColumn(column);
        return k.hi[column];
    }

    public long value(int node) {
        return needPoint(node).value.told();
    }

    public long point(int node, int column) {
        needNode(node);
        needColumn(column);
        return needPoint(node).x.get(column).told();
    }

    private Frac boundFrac() {
        if (knots.isEmpty() || knots.get(0).state == 'o') {
            return null;
        }
        List<Frac> all = new ArrayList<>();
        for (int k = 1; k < knots.size(); k++) {
            if (knots.get(k).state == 'o') {
                all.add(parentValue(k));
            }
        }
        if (bestX != null) {
            all.add(cost(bestX));
        }
        return all.isEmpty() ? null : Collections.min(all);
    }

    public long bound() {
        Frac b = boundFrac();
        if (b == null) {
            throw new NoSuchElementException();
        }
        return b.told();
    }

    private boolean take(List<Frac> x) {
        for (int j = 0; j < cols.size(); j++) {
            Col c = cols.get(j);
            if (x.get(j).compareTo(Frac.of(c.lower)) < 0 || x.get(j).compareTo(Frac.of(c.upper)) > 0
                    || (c.isWhole && !x.get(j).isWhole())) {
                return false;
            }
        }
        for (Line l : lines) {
            if (!l.holds(x)) {
                return false;
            }
        }
        if (bestX != null && cost(x).compareTo(cost(bestX)) >= 0) {
            return false;
        }
        bestX = x;
        return true;
    }

    public boolean offer(int a, int b, int c, int d) {
        if (knots.isEmpty()) {
            throw new IllegalStateException();
        }
        List<Frac> x = new ArrayList<>();
        for (int v : new int[] {a, b, c, d}) {
            if (x.size() < cols.size()) {
                x.add(Frac.of(v));
            }
        }
        boolean isTaken = take(x);
        if (isTaken) {
            see("offer taken");
        }
        return isTaken;
    }

    public boolean round(int node) {
        List<Frac> x = new ArrayList<>(needPoint(node).x);
        for (int j = 0; j < x.size(); j++) {
            if (cols.get(j).isWhole) {
                x.set(j, Frac.of(x.get(j).plus(Frac.of(1, 2)).floor()));
            }
        }
        boolean isTaken = take(x);
        if (isTaken) {
            see("round taken");
        }
        return isTaken;
    }

    public long best() {
        if (bestX == null) {
            throw new NoSuchElementException();
        }
        return cost(bestX).told();
    }

    public long solution(int column) {
        needColumn(column);
        if (bestX == null) {
            throw new NoSuchElementException();
        }
        return bestX.get(column).told();
    }

    public int bestByAll() {
        long points = 1;
        for (Col c : cols) {
            if (!c.isWhole) {
                throw new UnsupportedOperationException();
            }
            points *= c.upper - c.lower + 1;
        }
        if (points > 6000) {
            throw new UnsupportedOperationException();
        }
        Frac least = leastFrom(new ArrayList<>());
        if (least == null) {
            throw new NoSuchElementException();
        }
        return (int) least.top;
    }

    private Frac leastFrom(List<Frac> x) {
        if (x.size() == cols.size()) {
            return lines.stream().allMatch(l -> l.holds(x)) ? cost(x) : null;
        }
        Frac least = null;
        Col c = cols.get(x.size());
        for (int v = c.lower; v <= c.upper; v++) {
            List<Frac> more = new ArrayList<>(x);
            more.add(Frac.of(v));
            Frac there = leastFrom(more);
            if (there != null && (least == null || there.compareTo(least) < 0)) {
                least = there;
            }
        }
        return least;
    }

    private Line needLine(int row) {
        if (row < 0 || row >= lines.size()) {
            throw new IndexOutOfBoundsException();
        }
        return lines.get(row);
    }

    public int cutByRounding(int node, int row, int divisor) {
        Knot at = needNode(node);
        Line line = needLine(row).forCut();
        if (divisor < 2 || divisor > 5) {
            throw new IllegalArgumentException();
        }
        if (slices.size() == 16) {
            throw new IllegalStateException();
        }
        Integer[] co = {0, 0, 0, 0};
        Frac left = Frac.of(line.side);
        int more = 0;
        for (int j = 0; j < cols.size(); j++) {
            int old = line.co.get(j);
            if (old != 0 && !cols.get(j).isWhole) {
                throw new UnsupportedOperationException();
            }
            co[j] = (int) Frac.of(old, divisor).floor();
            left = left.minus(Frac.of(old * at.lo[j]));
            more += co[j] * at.lo[j];
        }
        int side = (int) left.over(Frac.of(divisor)).floor() + more;
        return keep('r', new Line('l', side, List.of(co)), node);
    }

    public int cutByCover(int row) {
        Line line = needLine(row).forCut();
        if (knots.isEmpty() || knots.get(0).x == null) {
            throw new NoSuchElementException();
        }
        if (slices.size() == 16) {
            throw new IllegalStateException();
        }
        List<Integer> these = new ArrayList<>();
        for (int j = 0; j < cols.size(); j++) {
            int a = line.co.get(j);
            if (a < 0 || (a > 0 && !is01(j))) {
                throw new UnsupportedOperationException();
            }
            if (a > 0) {
                these.add(j);
            }
        }
        if (line.side < 0 || weigh(line, these) <= line.side) {
            throw new UnsupportedOperationException();
        }
        List<Integer> queue = new ArrayList<>(these);
        queue.sort((p, q) -> knots.get(0).x.get(q).compareTo(knots.get(0).x.get(p)));
        List<Integer> taken = new ArrayList<>();
        while (weigh(line, taken) <= line.side) {
            taken.add(queue.remove(0));
        }
        Collections.sort(taken);
        for (Integer j : List.copyOf(taken)) {
            List<Integer> others = new ArrayList<>(taken);
            others.remove(j);
            if (weigh(line, others) > line.side) {
                taken = others;
                see("left out of a cover again");
            }
        }
        return keep('c', lifted(line, these, taken), 0);
    }

    private Line lifted(Line line, List<Integer> these, List<Integer> cover) {
        Integer[] co = {0, 0, 0, 0};
        cover.forEach(j -> co[j] = 1);
        int side = cover.size() - 1;
        List<Integer> known = new ArrayList<>(cover);
        for (int j : these) {
            if (cover.contains(j)) {
                continue;
            }
            int greatest = -1;
            for (int bits = 0; bits < 1 << known.size(); bits++) {
                List<Integer> ones = new ArrayList<>();
                int sum = 0;
                for (int k = 0; k < known.size(); k++) {
                    if ((bits & 1 << k) != 0) {
                        ones.add(known.get(k));
                        sum += co[known.get(k)];
                    }
                }
                if (weigh(line, ones) <= line.side - line.co.get(j)) {
                    greatest = Math.max(greatest, sum);
                }
            }
            co[j] = greatest < 0 ? side : side - greatest;
            see(greatest < 0 ? "no choice to lift" : "lifted");
            known.add(j);
        }
        return new Line('l', side, List.of(co));
    }

    private static int weigh(Line line, List<Integer> some) {
        return some.stream().mapToInt(j -> line.co.get(j)).sum();
    }

    public int cutByLikeness(int column, int other) {
        needColumn(column);
        needColumn(other);
        if (other <= column) {
            throw new IllegalArgumentException();
        }
        if (knots.isEmpty() || slices.size() == 16) {
            throw new IllegalStateException();
        }
        if (!areAlike(column, other)) {
            throw new UnsupportedOperationException();
        }
        Integer[] co = {0, 0, 0, 0};
        co[column] = -1;
        co[other] = 1;
        int cut = keep('y', new Line('l', 0, List.of(co)), 0);
        slices.get(cut).one = column;
        slices.get(cut).two = other;
        return cut;
    }

    public int cuts() {
        return slices.size();
    }

    private Slice needCut(int cut) {
        if (cut < 0 || cut >= slices.size()) {
            throw new IndexOutOfBoundsException();
        }
        return slices.get(cut);
    }

    public char kind(int cut) {
        return needCut(cut).kind;
    }

    public int coefficient(int cut, int column) {
        Slice s = needCut(cut);
        needColumn(column);
        return s.line.co.get(column);
    }

    public int side(int cut) {
        return needCut(cut).line.side;
    }

    public int age(int cut) {
        return needCut(cut).age;
    }

    public int gain(int column, boolean isUp) {
        needColumn(column);
        if (knots.isEmpty()) {
            throw new IllegalStateException();
        }
        List<Long> all = gains.get(column + "" + isUp);
        if (all == null) {
            return 1;
        }
        long sum = all.stream().mapToLong(v -> v).sum();
        return (int) (sum / all.size());
    }

    public float gap() {
        Frac b = boundFrac();
        if (bestX == null || b == null) {
            throw new ArithmeticException();
        }
        float cost = cost(bestX).asFloat();
        return Math.abs(cost - b.asFloat()) / Math.max(1f, Math.abs(cost));
    }

    public double meanDepth() {
        if (knots.isEmpty()) {
            throw new ArithmeticException();
        }
        int sum = 0;
        for (int k = 0; k < knots.size(); k++) {
            for (int at = k; knots.get(at).parent >= 0; at = knots.get(at).parent) {
                sum++;
            }
        }
        return (double) sum / (double) knots.size();
    }
}
