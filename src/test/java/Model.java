import java.math.BigInteger;
import java.util.ArrayDeque;
import java.util.ArrayList;
import java.util.Arrays;
import java.util.Deque;
import java.util.HashMap;
import java.util.HashSet;
import java.util.List;
import java.util.Map;
import java.util.NoSuchElementException;
import java.util.Set;
import java.util.TreeMap;
import java.util.function.IntPredicate;

/**
 * The document once more, written apart from the class and by the dullest means: whole lists of pieces, trees,
 * all sets, all rows, all orders. RandomRunsTest holds the class against it.
 */
final class Model {
    private static final int NONE = -1;

    private record Shot(int day, int sharp, int worth, int people, int scene) { }

    private record Piece(String text, int at) { }

    private record Fault(int kind, int place) { }

    private static final class Broken extends Exception {
        private static final long serialVersionUID = 1L;
        final transient Fault fault;

        Broken(int kind, int place) {
            fault = new Fault(kind, place);
        }
    }

    private static final class State {
        Map<Integer, Integer> thrown = new HashMap<>();
        Set<Integer> gone = new HashSet<>();
        Set<Integer> stars = new HashSet<>();
        Map<Integer, Integer> thoughts = new HashMap<>();
        List<Integer> history = new ArrayList<>();
        int tired;
        int evening;

        State copy() {
            State s = new State();
            s.thrown.putAll(thrown);
            s.gone.addAll(gone);
            s.stars.addAll(stars);
            s.thoughts.putAll(thoughts);
            s.history.addAll(history);
            s.tired = tired;
            s.evening = evening;
            return s;
        }

        boolean isKept(int p) {
            return !thrown.containsKey(p) && !gone.contains(p);
        }
    }

    private record Image(State now, List<State> past) { }

    private interface Expr {
        int value(Map<String, Integer> facts);
    }

    private record Step(String word, int number, List<Step> inside) { }

    private List<Shot> shots = new ArrayList<>();
    private int[] wishes = new int[6];
    private int size = 4;
    private int tire = 1;
    private int bin = 3;
    private Expr law = defaultLaw();
    private List<int[]> lines = new ArrayList<>();
    private State now = new State();
    private Deque<State> past = new ArrayDeque<>();
    private final Deque<Image> images = new ArrayDeque<>();
    private final List<Integer> tape = new ArrayList<>();
    private int lastRefused;
    private int faultPlace = NONE;
    private final int[] refusals = new int[2];

    private static Expr defaultLaw() {
        return f -> f.get("worth") - f.get("tired");
    }

    // ---- pieces of a text ----

    private static final class Pieces {
        final List<Piece> list = new ArrayList<>();
        final int length;
        int next;

        Pieces(List<Integer> bytes) {
            length = bytes.size();
            int i = 0;
            while (i < length) {
                int from = i;
                IntPredicate run = isDigit(bytes.get(i)) ? Pieces::isDigit : Pieces::isSmall;
                do {
                    i++;
                } while (i < length && run.test(bytes.get(from)) && run.test(bytes.get(i)));
                StringBuilder text = new StringBuilder();
                for (int k = from; k < i; k++) {
                    text.append((char) (int) bytes.get(k));
                }
                if (!text.toString().equals(" ")) {
                    list.add(new Piece(text.toString(), from));
                }
            }
        }

        static boolean isDigit(int b) {
            return b >= 48 && b <= 57;
        }

        static boolean isSmall(int b) {
            return b >= 97 && b <= 122;
        }

        boolean isEnd() {
            return next == list.size();
        }

        String text() {
            return isEnd() ? "" : list.get(next).text();
        }

        int place() {
            return isEnd() ? length : list.get(next).at();
        }

        void sign(String s) throws Broken {
            if (!text().equals(s)) {
                throw new Broken(1, place());
            }
            next++;
        }

        boolean isNumber() {
            return !isEnd() && isDigit(text().charAt(0));
        }

        int number(int least, int most) throws Broken {
            if (!isNumber()) {
                throw new Broken(1, place());
            }
            BigInteger n = new BigInteger(text());
            if (n.compareTo(BigInteger.valueOf(least)) < 0 || n.compareTo(BigInteger.valueOf(most)) > 0) {
                throw new Broken(2, place());
            }
            next++;
            return n.intValue();
        }
    }

    private List<Integer> take(int n, int most) {
        argument(n >= 0 && n <= most && n <= tape.size());
        List<Integer> text = new ArrayList<>(tape.subList(0, n));
        tape.clear();
        faultPlace = NONE;
        return text;
    }

    private int broken(Broken b) {
        faultPlace = b.fault.place();
        return b.fault.kind() - 10;
    }

    // ---- texts ----

    public int feed(int a, int b, int c, int d, int e) {
        if (tape.size() > 580) {
            return NONE;
        }
        for (int v : new int[] {a, b, c, d, e}) {
            for (byte x : BigInteger.valueOf(v & 0xffffffffL | 1L << 32).toByteArray()) {
                tape.add(x & 255);
            }
            tape.remove(tape.size() - 5);
        }
        return tape.size();
    }

    public int summer(int n) {
        Pieces t = new Pieces(take(n, 600));
        List<Shot> newShots = new ArrayList<>();
        int[] newWishes = new int[6];
        Map<String, Integer> settings = new HashMap<>(Map.of("size", 4, "tire", 1, "bin", 3));
        try {
            for (int clauses = 0; !t.isEnd(); clauses++) {
                String word = t.text();
                int at = t.place();
                if (!Set.of("picture", "wish", "size", "tire", "bin").contains(word)) {
                    throw new Broken(1, at);
                }
                if (clauses == 60 || word.equals("picture") && newShots.size() == 16) {
                    throw new Broken(3, at);
                }
                t.next++;
                switch (word) {
                    case "picture" -> newShots.add(new Shot(t.number(0, 30), t.number(0, 9), t.number(0, 40),
                            t.number(0, 63), t.number(0, 9)));
                    case "wish" -> newWishes[t.number(0, 5)] = t.number(0, 8);
                    case "size" -> settings.put(word, t.number(0, 8));
                    case "tire" -> settings.put(word, t.number(0, 9));
                    default -> settings.put(word, t.number(1, 30));
                }
                t.sign(";");
            }
        } catch (Broken b) {
            return broken(b);
        }
        shots = newShots;
        wishes = newWishes;
        size = settings.get("size");
        tire = settings.get("tire");
        bin = settings.get("bin");
        law = defaultLaw();
        lines = new ArrayList<>();
        images.clear();
        past.clear();
        now = new State();
        lastRefused = 0;
        return shots.size();
    }

    public int law(int n) {
        Pieces t = new Pieces(take(n, 150));
        try {
            Expr e = sum(t, 0);
            if (!t.isEnd()) {
                throw new Broken(1, t.place());
            }
            law = e;
            return 1;
        } catch (Broken b) {
            return broken(b);
        }
    }

    private Expr sum(Pieces t, int open) throws Broken {
        Expr e = product(t, open);
        while (t.text().equals("+") || t.text().equals("-")) {
            boolean plus = t.text().equals("+");
            t.next++;
            Expr a = e;
            Expr b = product(t, open);
            e = f -> plus ? a.value(f) + b.value(f) : a.value(f) - b.value(f);
        }
        return e;
    }

    private Expr product(Pieces t, int open) throws Broken {
        Expr e = unit(t, open);
        while (t.text().equals("*") || t.text().equals("/")) {
            boolean times = t.text().equals("*");
            t.next++;
            Expr a = e;
            Expr b = unit(t, open);
            e = f -> times ? a.value(f) * b.value(f) : b.value(f) == 0 ? 0 : a.value(f) / b.value(f);
        }
        return e;
    }

    private Expr unit(Pieces t, int open) throws Broken {
        if (t.isNumber()) {
            int n = t.number(0, 999);
            return f -> n;
        }
        String word = t.text();
        if (Set.of("worth", "sharp", "people", "day", "tired", "looks", "same", "star").contains(word)) {
            t.next++;
            return f -> f.get(word);
        }
        if (!Set.of("least", "most", "(").contains(word)) {
            throw new Broken(1, t.place());
        }
        if (open == 6) {
            throw new Broken(3, t.place());
        }
        t.next++;
        if (word.equals("(")) {
            Expr e = sum(t, open + 1);
            t.sign(")");
            return e;
        }
        t.sign("[");
        Expr a = sum(t, open + 1);
        t.sign(",");
        Expr b = sum(t, open + 1);
        t.sign("]");
        return word.equals("least") ? f -> Math.min(a.value(f), b.value(f)) : f -> Math.max(a.value(f), b.value(f));
    }

    public int work(int n) {
        argument(n >= 0 && n <= 150 && n <= tape.size());
        List<Integer> text = take(n, 150);
        if (past.size() == 16) {
            return -20;
        }
        List<Step> steps;
        Pieces t = new Pieces(text);
        try {
            steps = steps(t, 0);
            if (!t.isEnd()) {
                throw new Broken(1, t.place());
            }
        } catch (Broken b) {
            return broken(b);
        }
        past.push(now.copy());
        int[] counts = new int[3];
        perform(steps, counts);
        lastRefused = counts[2];
        return counts[1];
    }

    private List<Step> steps(Pieces t, int open) throws Broken {
        List<Step> list = new ArrayList<>();
        while (!t.isEnd() && !t.text().equals("]")) {
            String word = t.text();
            if (!Set.of("look", "star", "throw", "save", "rest", "evening", "again").contains(word)) {
                throw new Broken(1, t.place());
            }
            if (word.equals("again") && open == 6) {
                throw new Broken(3, t.place());
            }
            t.next++;
            int number = 0;
            List<Step> inside = List.of();
            if (word.equals("again")) {
                number = t.number(0, 20);
                t.sign("[");
                inside = steps(t, open + 1);
                t.sign("]");
            } else if (!word.equals("rest") && !word.equals("evening")) {
                number = t.number(0, shots.size() - 1);
            }
            t.sign(";");
            list.add(new Step(word, number, inside));
        }
        return list;
    }

    /** Counts: begun, done, refused. */
    private void perform(List<Step> steps, int[] counts) {
        for (Step s : steps) {
            if (counts[0] == 200) {
                return;
            }
            counts[0]++;
            if (s.word().equals("again")) {
                for (int i = 0; i < s.number(); i++) {
                    perform(s.inside(), counts);
                }
            } else {
                counts[step(now, s.word(), s.number()) ? 1 : 2]++;
            }
        }
    }

    private boolean step(State s, String word, int p) {
        switch (word) {
            case "look":
                if (s.gone.contains(p)) {
                    return false;
                }
                s.thoughts.put(p, think(s, p));
                s.history.add(p);
                s.tired = Math.min(99, s.tired + tire);
                return true;
            case "star":
                return s.isKept(p) && s.stars.add(p);
            case "throw":
                if (!s.isKept(p)) {
                    return false;
                }
                s.thrown.put(p, s.evening);
                s.stars.remove(p);
                return true;
            case "save":
                return s.thrown.remove(p) != null;
            case "rest":
                boolean can = s.tired != 0;
                s.tired /= 2;
                return can;
            default:
                if (s.evening >= 200) {
                    return false;
                }
                s.evening++;
                s.tired = 0;
                for (int q = 0; q < shots.size(); q++) {
                    if (s.thrown.containsKey(q) && s.thrown.get(q) + bin <= s.evening) {
                        s.thrown.remove(q);
                        s.gone.add(q);
                    }
                }
                return true;
        }
    }

    private int think(State s, int p) {
        Shot shot = shots.get(p);
        int same = (int) s.history.stream().filter(q -> shots.get(q).scene() == shot.scene()).count();
        return clamp(law.value(Map.of("worth", shot.worth(), "sharp", shot.sharp(), "people",
                Integer.toBinaryString(shot.people()).replace("0", "").length(), "day", shot.day(), "tired", s.tired,
                "looks", s.history.size(), "same", same, "star", s.stars.contains(p) ? 1 : 0)));
    }

    private static int clamp(int v) {
        return Math.max(0, Math.min(99, v));
    }

    public int clocks(int n) {
        Pieces t = new Pieces(take(n, 100));
        List<int[]> read = new ArrayList<>();
        try {
            while (!t.isEnd()) {
                int at = t.place();
                int a = t.number(0, 999);
                if (read.size() == 10) {
                    throw new Broken(3, at);
                }
                read.add(new int[] {a, t.number(0, 999)});
                t.sign(";");
            }
        } catch (Broken b) {
            return broken(b);
        }
        lines = read;
        return lines.size();
    }

    public int fault() {
        return faultPlace;
    }

    public int undo() {
        if (past.isEmpty()) {
            return -1;
        }
        now = past.pop();
        lastRefused = 0;
        return past.size();
    }

    // ---- what is told ----

    private List<Integer> keptOnes(State s) {
        List<Integer> list = new ArrayList<>();
        for (int p = 0; p < shots.size(); p++) {
            if (s.isKept(p)) {
                list.add(p);
            }
        }
        return list;
    }

    public int told(int what) {
        argument(what >= 0 && what <= 10);
        return new int[] {shots.size(), now.history.size(), now.tired, now.evening, keptOnes(now).size(),
            now.thrown.size(), now.gone.size(), now.stars.size(), lines.size(), lastRefused,
            shots.size() - new HashSet<>(now.history).size()}[what];
    }

    public int picture(int p, int what) {
        element(p >= 0 && p < shots.size());
        argument(what >= 0 && what <= 8);
        Shot s = shots.get(p);
        int place = now.gone.contains(p) ? 2 : now.thrown.containsKey(p) ? 1 : 0;
        int times = (int) now.history.stream().filter(q -> q == p).count();
        return new int[] {s.day(), s.sharp(), s.worth(), s.people(), s.scene(), place, now.stars.contains(p) ? 1 : 0,
            now.thoughts.getOrDefault(p, NONE), times}[what];
    }

    private boolean shows(int p, int x) {
        return (shots.get(p).people() / (1 << x)) % 2 == 1;
    }

    public int person(int x, int what) {
        element(x >= 0 && x < 6);
        argument(what == 0 || what == 1);
        return what == 0 ? wishes[x] : (int) keptOnes(now).stream().filter(p -> shows(p, x)).count();
    }

    public int thought(int p) {
        element(p >= 0 && p < shots.size());
        return think(now, p);
    }

    public int would(int worth, int sharp, int people, int day, int tired, int looks, int same, int star) {
        argument(in(worth, 0, 40) && in(sharp, 0, 9) && in(people, 0, 6) && in(day, 0, 30) && in(tired, 0, 99)
                && in(looks, 0, 999) && in(same, 0, 999) && in(star, 0, 1));
        return clamp(law.value(Map.of("worth", worth, "sharp", sharp, "people", people, "day", day, "tired", tired,
                "looks", looks, "same", same, "star", star)));
    }

    public int favourite() {
        return keptOnes(now).stream().filter(now.thoughts::containsKey)
                .min((a, b) -> now.thoughts.get(a).equals(now.thoughts.get(b)) ? a - b
                        : now.thoughts.get(b) - now.thoughts.get(a)).orElse(NONE);
    }

    // ---- books ----

    private boolean isBookWith(int bits, int[] wanted) {
        Set<Integer> scenes = new HashSet<>();
        int[] times = new int[6];
        int many = 0;
        for (int p = 0; p < shots.size(); p++) {
            if ((bits & 1 << p) != 0) {
                many++;
                if (!now.isKept(p) || !scenes.add(shots.get(p).scene())) {
                    return false;
                }
                for (int x = 0; x < 6; x++) {
                    times[x] += shows(p, x) ? 1 : 0;
                }
            }
        }
        for (int x = 0; x < 6; x++) {
            if (times[x] < wanted[x]) {
                return false;
            }
        }
        return many == size;
    }

    /** How many, value, bits. */
    private int[] allBooks(int[] wanted) {
        int[] out = {0, NONE, NONE};
        for (int bits = 0; bits < 1 << shots.size(); bits++) {
            if (isBookWith(bits, wanted)) {
                int value = 0;
                for (int p = 0; p < shots.size(); p++) {
                    value += (bits & 1 << p) != 0 ? shots.get(p).worth() : 0;
                }
                out[0]++;
                if (value > out[1]) {
                    out[1] = value;
                    out[2] = bits;
                }
            }
        }
        return out;
    }

    public int books(int what) {
        argument(in(what, 0, 2));
        return allBooks(wishes)[what];
    }

    public int cost(int x) {
        element(x >= 0 && x < 6);
        int[] free = wishes.clone();
        free[x] = 0;
        int[] with = allBooks(wishes);
        int[] without = allBooks(free);
        return without[0] == 0 ? -2 : with[0] == 0 ? -1 : without[1] - with[1];
    }

    private void set(int bits) {
        argument(bits >= 0 && bits < 1 << shots.size());
    }

    private static List<Integer> ones(int bits) {
        List<Integer> list = new ArrayList<>();
        for (int p = 0; p < 16; p++) {
            if ((bits & 1 << p) != 0) {
                list.add(p);
            }
        }
        return list;
    }

    public int swap(int bits, int what) {
        set(bits);
        argument(in(what, 0, 2));
        int[] best = {NONE, NONE, NONE};
        for (int out : ones(bits)) {
            for (int in : keptOnes(now)) {
                if ((bits & 1 << in) == 0) {
                    int sum = ones(bits & ~(1 << out) | 1 << in).stream().mapToInt(p -> shots.get(p).sharp()).sum();
                    if (sum > best[2]) {
                        best = new int[] {out, in, sum};
                    }
                }
            }
        }
        return best[what];
    }

    public boolean isBook(int bits) {
        set(bits);
        return isBookWith(bits, wishes);
    }

    private Map<String, Integer> groups() {
        Map<String, Integer> groups = new TreeMap<>();
        for (int p : keptOnes(now)) {
            groups.merge(shots.get(p).scene() + "/" + shots.get(p).people(), 1 << p, (a, b) -> a | b);
        }
        return groups;
    }

    public int heaps(int what) {
        argument(in(what, 0, 2));
        Map<String, Integer> g = groups();
        int greatest = g.values().stream().mapToInt(Integer::bitCount).max().orElse(0);
        return new int[] {g.size(), greatest, keptOnes(now).size() - g.size()}[what];
    }

    public int doubles(int p) {
        element(p >= 0 && p < shots.size());
        return now.isKept(p) ? groups().get(shots.get(p).scene() + "/" + shots.get(p).people()) : 0;
    }

    // ---- odds ----

    private static BigInteger big(long v) {
        return BigInteger.valueOf(v);
    }

    private static long part(BigInteger above, BigInteger below, int part) {
        BigInteger g = above.gcd(below);
        return (part == 0 ? above : below).divide(g).longValueExact();
    }

    /** By place of the best and how great the best of those ahead stands, not by the closed sum. */
    private static BigInteger[] lineOdds(int n, int r) {
        BigInteger above = big(0);
        BigInteger below = big(1);
        for (int best = 1; best <= n; best++) {
            // The best is taken, if it stands behind the first r and the best of those ahead is among the first r.
            long over = best <= r ? 0 : best == 1 ? 1 : r;
            long under = best == 1 ? 1 : best - 1;
            above = above.multiply(big(under)).add(below.multiply(big(over)));
            below = below.multiply(big(under));
        }
        return new BigInteger[] {above, below.multiply(big(n))};
    }

    public long line(int n, int r, int part) {
        argument(in(n, 1, 12) && in(r, 0, n - 1) && in(part, 0, 1));
        BigInteger[] o = lineOdds(n, r);
        return part(o[0], o[1], part);
    }

    public int leave(int n) {
        argument(in(n, 1, 12));
        int best = 0;
        for (int r = 0; r < n; r++) {
            BigInteger[] a = lineOdds(n, r);
            BigInteger[] b = lineOdds(n, best);
            if (a[0].multiply(b[1]).compareTo(b[0].multiply(a[1])) > 0) {
                best = r;
            }
        }
        return best;
    }

    public long knock(int n, int q, int part) {
        argument(in(n, 1, 64) && in(q, 0, 16) && in(part, 0, 1));
        BigInteger above = big(1);
        BigInteger below = big(1);
        int left = n;
        while (left != 1) {
            above = above.multiply(big(q));
            below = below.multiply(big(16));
            left = left / 2 + left % 2;
        }
        return part(above, below, part);
    }

    public long often(int m, int q, int part) {
        argument(in(m, 1, 9) && m % 2 != 0 && in(q, 0, 16) && in(part, 0, 1));
        BigInteger above = big(0);
        for (int told = 0; told < 1 << m; told++) {
            int right = Integer.bitCount(told);
            if (right > m / 2) {
                above = above.add(big(q).pow(right).multiply(big(16 - q).pow(m - right)));
            }
        }
        return part(above, big(16).pow(m), part);
    }

    /** All rows, place by place the least picture first. */
    private void rows(List<Integer> left, List<Integer> done, List<List<Integer>> out) {
        if (left.isEmpty()) {
            out.add(new ArrayList<>(done));
        }
        for (int p : left) {
            List<Integer> rest = new ArrayList<>(left);
            rest.remove((Integer) p);
            done.add(p);
            rows(rest, done, out);
            done.remove(done.size() - 1);
        }
    }

    private int lost(List<Integer> row) {
        State s = now.copy();
        int lost = 0;
        for (int p : row) {
            step(s, "look", p);
            lost += Math.max(0, shots.get(p).worth() - s.thoughts.get(p));
        }
        return lost;
    }

    private List<Integer> bestRow(int bits) {
        set(bits);
        argument(ones(bits).size() <= 6 && ones(bits).stream().noneMatch(now.gone::contains));
        List<List<Integer>> all = new ArrayList<>();
        rows(ones(bits), new ArrayList<>(), all);
        List<Integer> best = null;
        int least = Integer.MAX_VALUE;
        for (List<Integer> row : all) {
            int lost = lost(row);
            if (lost < least) {
                least = lost;
                best = row;
            }
        }
        return best;
    }

    public int order(int bits) {
        return lost(bestRow(bits));
    }

    public int ordered(int bits, int place) {
        set(bits);
        argument(place >= 0);
        List<Integer> row = bestRow(bits);
        return place < row.size() ? row.get(place) : NONE;
    }

    private int right(int x) {
        return (int) lines.stream().filter(l -> Math.abs(l[0] + x - l[1]) <= 1).count();
    }

    public int off(int e, int what) {
        argument(in(e, 0, 10) && in(what, 0, 3));
        List<Integer> fits = new ArrayList<>();
        for (int x = -99; x <= 99; x++) {
            if (right(x) + e >= lines.size()) {
                fits.add(x);
            }
        }
        if (what == 0 || fits.isEmpty()) {
            return what == 0 ? fits.size() : -100;
        }
        return fits.get(new int[] {0, 0, fits.size() - 1, (fits.size() - 1) / 2}[what]);
    }

    public int bestOff() {
        List<Integer> all = new ArrayList<>();
        for (int x = -99; x <= 99; x++) {
            all.add(x);
        }
        all.sort((a, b) -> right(a) != right(b) ? right(b) - right(a)
                : Math.abs(a) != Math.abs(b) ? Math.abs(a) - Math.abs(b) : a - b);
        return all.get(0);
    }

    private static BigInteger[] eyesOdds(int x, int q, int n) {
        BigInteger all = big(16).pow(x);
        BigInteger none = all.subtract(big(q).pow(x)).pow(n);
        return new BigInteger[] {all.pow(n).subtract(none), all.pow(n)};
    }

    public long eyes(int x, int q, int n, int part) {
        argument(in(x, 0, 3) && in(q, 0, 16) && in(n, 0, 5) && in(part, 0, 1));
        BigInteger[] o = eyesOdds(x, q, n);
        return part(o[0], o[1], part);
    }

    public int need(int x, int q, int c) {
        argument(in(x, 0, 2) && in(q, 0, 16) && in(c, 0, 16));
        for (int n = 0; n <= 7; n++) {
            BigInteger[] o = eyesOdds(x, q, n);
            if (o[0].multiply(big(16)).compareTo(o[1].multiply(big(c))) >= 0) {
                return n;
            }
        }
        return NONE;
    }

    // ---- days, people, scenes ----

    public int day(int day, int what) {
        argument(in(day, 0, 30) && in(what, 0, 1));
        List<Integer> those = keptOnes(now).stream().filter(p -> shots.get(p).day() == day).toList();
        return what == 0 ? those.size() : those.stream().min((a, b) -> shots.get(a).worth() != shots.get(b).worth()
                ? shots.get(b).worth() - shots.get(a).worth() : a - b).orElse(NONE);
    }

    private int sharedBy(int x, int y) {
        return (int) keptOnes(now).stream().filter(p -> shows(p, x) && shows(p, y)).count();
    }

    public int together(int x, int y, int what) {
        element(in(x, 0, 5) && in(y, 0, 5));
        argument(in(what, 0, 1));
        if (what == 0) {
            return sharedBy(x, y);
        }
        int bits = 0;
        for (int p : keptOnes(now)) {
            boolean just = true;
            for (int z = 0; z < 6; z++) {
                just &= shows(p, z) == (z == x || z == y);
            }
            bits += just ? 1 << p : 0;
        }
        return bits;
    }

    public int missing() {
        int bits = 0;
        for (int x = 0; x < 6; x++) {
            bits += sharedBy(x, x) < wishes[x] ? 1 << x : 0;
        }
        return bits;
    }

    public int strict(int n) {
        argument(in(n, 0, 16));
        int b = 0;
        while (true) {
            int least = b;
            if (keptOnes(now).stream().filter(p -> now.thoughts.getOrDefault(p, NONE) >= least).count() <= n) {
                return b;
            }
            b++;
        }
    }

    public int binned(int p) {
        element(p >= 0 && p < shots.size());
        if (!now.thrown.containsKey(p)) {
            return NONE;
        }
        return now.thrown.get(p) + bin - now.evening;
    }

    public int scene(int scene, int what) {
        argument(in(scene, 0, 9) && in(what, 0, 1));
        List<Integer> those = keptOnes(now).stream().filter(p -> shots.get(p).scene() == scene).toList();
        return what == 0 ? those.size() : those.stream().min((a, b) -> shots.get(a).sharp() != shots.get(b).sharp()
                ? shots.get(b).sharp() - shots.get(a).sharp() : a - b).orElse(NONE);
    }

    public int friend(int x, int what) {
        element(in(x, 0, 5));
        argument(in(what, 0, 1));
        int[] best = {NONE, NONE};
        for (int y = 5; y >= 0; y--) {
            if (y != x && sharedBy(x, y) > 0 && sharedBy(x, y) >= best[1]) {
                best = new int[] {y, sharedBy(x, y)};
            }
        }
        return best[what];
    }

    // ---- summers by seeds ----

    private static final class Dice {
        private long seed;

        Dice(int seed) {
            this.seed = seed & 0xffffffffL;
        }

        int by(int n) {
            seed = big(seed).multiply(big(1103515245)).add(big(12345)).mod(big(1L << 32)).longValueExact();
            return (int) (seed / 65536 % 32768 % n);
        }
    }

    /** The state behind it; the rests in its evening, which is not asked for. */
    private int[] onward(int seed, int looks, int q, int b, State s) {
        Dice dice = new Dice(seed);
        int rests = 0;
        for (int i = 0; i < looks; i++) {
            List<Integer> left = keptOnes(s);
            if (left.isEmpty()) {
                continue;
            }
            int p = left.get(dice.by(left.size()));
            step(s, "look", p);
            if (dice.by(16) < q && step(s, "rest", 0)) {
                rests++;
            }
            if (s.thoughts.get(p) < b) {
                step(s, "throw", p);
            }
        }
        return new int[] {keptOnes(s).size(), s.tired, rests,
            keptOnes(s).stream().mapToInt(p -> shots.get(p).worth()).sum()};
    }

    public int goesOn(int seed, int looks, int q, int b, int what) {
        argument(in(looks, 1, 60) && in(q, 0, 16) && in(b, 0, 99) && in(what, 0, 3));
        return onward(seed, looks, q, b, now.copy())[what];
    }

    public int span(int seed, int many, int looks, int q, int b, int what, int picture) {
        argument(in(many, 1, 20) && in(looks, 1, 60) && in(q, 0, 16) && in(b, 0, 99) && in(what, 0, 2)
                && in(picture, 0, shots.size() - 1));
        int[] left = new int[many];
        int times = 0;
        for (int i = 0; i < many; i++) {
            State s = now.copy();
            left[i] = onward(seed + i, looks, q, b, s)[0];
            times += s.isKept(picture) ? 1 : 0;
        }
        Arrays.sort(left);
        return new int[] {left[0], left[many - 1], times}[what];
    }

    // ---- images, counts ----

    public int image() {
        if (images.size() == 3) {
            return -1;
        }
        List<State> old = new ArrayList<>();
        past.forEach(s -> old.add(s.copy()));
        images.push(new Image(now.copy(), old));
        return images.size();
    }

    public int restore() {
        if (images.isEmpty()) {
            return -1;
        }
        Image image = images.pop();
        now = image.now();
        past = new ArrayDeque<>(image.past());
        lastRefused = 0;
        return images.size();
    }

    public int status(int what) {
        return what == 0 || what == 1 ? refusals[what] : NONE;
    }

    public int kept(int what) {
        return what == 0 ? images.size() : what == 1 ? tape.size() : what == 2 ? past.size() : NONE;
    }

    // ---- refusals ----

    private static boolean in(int v, int least, int most) {
        return v >= least && v <= most;
    }

    private void element(boolean good) {
        if (!good) {
            refusals[0]++;
            throw new NoSuchElementException();
        }
    }

    private void argument(boolean good) {
        if (!good) {
            refusals[1]++;
            throw new IllegalArgumentException();
        }
    }
}
