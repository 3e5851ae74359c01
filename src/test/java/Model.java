import java.math.BigInteger;
import java.util.ArrayList;
import java.util.Arrays;
import java.util.HashMap;
import java.util.HashSet;
import java.util.List;
import java.util.Map;
import java.util.Set;

/**
 * A second reading of the document, plain and slow, made another way than MovesUp: faults by a table of
 * grammar states (Earley), sums straight from the tokens, fractions by BigInteger, all marks one by one.
 */
final class Model {
    static final long NO = -4611686018427387904L;
    private static final List<String> NAMES = List.of("step", "class", "week", "sort", "moved", "left");
    private static final List<String> KEYS = List.of("learn", "right", "end", "or", "and", "not");
    private static final Map<String, List<String[]>> GRAMMAR = grammar();

    static final class P {
        int kind, cls, sort, number, imageCls;
        long[] w = {1, 0, 0, 0, 0}, imageW = null;

        long all() {
            return Arrays.stream(w).sum();
        }
    }

    record Token(String is, int value, int place) { }

    record Way(long[] w, int cls, int moved, int lastWish, boolean lastMoved) { }

    final List<P> pupils = new ArrayList<>();
    final List<List<Token>> texts = new ArrayList<>();
    private final Map<List<Integer>, Integer> said = new HashMap<>();
    private StringBuilder tape = new StringBuilder();
    private int ruling = 0, imageRuling = 0, imageSize = -1;
    private final int[][] sheets = new int[4][];
    private final int[] sorts = {-1, -1, -1, -1};

    Model() {
        texts.add(tokens("learn 5 - ( class - step ) * ( class - step ) * 2 ; "
            + "right 8 - class * 2 + step * 2 ; end step * 10 ;"));
    }

    // ---- tokens, faults, sums

    static List<Token> tokens(String s) {
        List<Token> found = new ArrayList<>();
        int i = 0;
        while (i < s.length()) {
            char c = s.charAt(i);
            int j = i;
            if (c == 32 || c == 10) {
                i++;
                continue;
            }
            if (c >= 'a' && c <= 'z') {
                while (j < s.length() && s.charAt(j) >= 'a' && s.charAt(j) <= 'z') j++;
                String word = s.substring(i, j);
                found.add(NAMES.contains(word) ? new Token("name", NAMES.indexOf(word), i)
                    : new Token(KEYS.contains(word) ? word : "?", 0, i));
            } else if (c >= '0' && c <= '9') {
                while (j < s.length() && s.charAt(j) >= '0' && s.charAt(j) <= '9') j++;
                found.add(j - i > 4 ? new Token("?", 0, i) : new Token("number", Integer.parseInt(s.substring(i, j)), i));
            } else {
                j = i + 1;
                found.add(new Token("();+-*<=".indexOf(c) >= 0 ? "" + c : "?", 0, i));
            }
            i = j;
        }
        found.add(new Token("$", 0, s.length()));
        return found;
    }

    /** Every thing of the grammar once for each number of those that are open. */
    private static Map<String, List<String[]>> grammar() {
        Map<String, List<String[]>> g = new HashMap<>();
        put(g, "TEXT", "learn E0 ; right E0 ; end E0 ; $");
        for (int d = 0; d <= 5; d++) {
            put(g, "E" + d, "A" + d);
            put(g, "E" + d, "E" + d + " or A" + d);
            put(g, "A" + d, "N" + d);
            put(g, "A" + d, "A" + d + " and N" + d);
            put(g, "N" + d, "S" + d);
            put(g, "N" + d, "S" + d + " < S" + d);
            put(g, "N" + d, "S" + d + " = S" + d);
            put(g, "S" + d, "T" + d);
            put(g, "S" + d, "S" + d + " + T" + d);
            put(g, "S" + d, "S" + d + " - T" + d);
            put(g, "T" + d, "O" + d);
            put(g, "T" + d, "T" + d + " * O" + d);
            put(g, "O" + d, "number");
            put(g, "O" + d, "name");
            if (d < 5) {
                put(g, "N" + d, "not N" + (d + 1));
                put(g, "O" + d, "- O" + (d + 1));
                put(g, "O" + d, "( E" + (d + 1) + " )");
            }
        }
        return g;
    }

    private static void put(Map<String, List<String[]>> g, String left, String right) {
        g.computeIfAbsent(left, k -> new ArrayList<>()).add(right.split(" "));
    }

    private record Item(String left, String[] right, int dot, int from) {
        String next() {
            return dot < right.length ? right[dot] : null;
        }

        String name() {
            return left + System.identityHashCode(right) + "," + dot + "," + from;
        }
    }

    /** The place of a text's fault, -1 if it has none. */
    static int fault(List<Token> tokens) {
        List<List<Item>> table = new ArrayList<>();
        List<Item> now = new ArrayList<>();
        now.add(new Item("TEXT", GRAMMAR.get("TEXT").get(0), 0, 0));
        for (int i = 0; i < tokens.size(); i++) {
            table.add(now);
            Set<String> seen = new HashSet<>();
            for (Item it : now) seen.add(it.name());
            for (int k = 0; k < now.size(); k++) {
                Item it = now.get(k);
                if (it.next() == null) {
                    for (Item up : new ArrayList<>(table.get(it.from))) {
                        if (it.left.equals(up.next())) add(now, seen, new Item(up.left, up.right, up.dot + 1, up.from));
                    }
                } else if (GRAMMAR.containsKey(it.next())) {
                    for (String[] r : GRAMMAR.get(it.next())) add(now, seen, new Item(it.next(), r, 0, i));
                }
            }
            List<Item> then = new ArrayList<>();
            for (Item it : now) {
                if (tokens.get(i).is.equals(it.next())) then.add(new Item(it.left, it.right, it.dot + 1, it.from));
            }
            if (then.isEmpty()) return tokens.get(i).place;
            now = then;
        }
        return -1;
    }

    private static void add(List<Item> now, Set<String> seen, Item it) {
        if (seen.add(it.name())) now.add(it);
    }

    /** Works sums out straight from the tokens of a text that has no fault. */
    private static final class Sum {
        final List<Token> tokens;
        final int[] names;
        int at;

        Sum(List<Token> tokens, int key, int[] names) {
            this.tokens = tokens;
            this.names = names;
            while (!tokens.get(at).is.equals(KEYS.get(key))) at++;
            at++;
        }

        boolean has(String is) {
            if (!tokens.get(at).is.equals(is)) return false;
            at++;
            return true;
        }

        int or() {
            int v = and();
            while (has("or")) {
                int w = and();
                v = v != 0 | w != 0 ? 1 : 0;
            }
            return v;
        }

        int and() {
            int v = not();
            while (has("and")) {
                int w = not();
                v = v != 0 & w != 0 ? 1 : 0;
            }
            return v;
        }

        int not() {
            if (has("not")) return not() == 0 ? 1 : 0;
            int v = sum();
            if (has("<")) return v < sum() ? 1 : 0;
            if (has("=")) return v == sum() ? 1 : 0;
            return v;
        }

        int sum() {
            int v = term();
            while (true) {
                if (has("+")) v += term();
                else if (has("-")) v -= term();
                else return v;
            }
        }

        int term() {
            int v = one();
            while (has("*")) v *= one();
            return v;
        }

        int one() {
            if (has("-")) return -one();
            if (has("(")) {
                int v = or();
                at++;
                return v;
            }
            Token t = tokens.get(at++);
            return t.is.equals("name") ? names[t.value] : t.value;
        }
    }

    private int ask(int key, int step, int cls, int week, int sort, int moved) {
        return said.computeIfAbsent(List.of(ruling, key, step, cls, week, sort, moved), k -> {
            int v = new Sum(texts.get(ruling), key, new int[] {step, cls, week, sort, moved, week >= 5 ? 0 : 4 - week}).or();
            if (key == 0 && step == 4) return 0;
            int most = key == 2 ? 99 : 10;
            return v < 0 ? 0 : v > most ? most : v;
        });
    }

    // ---- weeks

    private static int clamp(int cls) {
        return cls < 0 ? 0 : cls > 4 ? 4 : cls;
    }

    private long[] week(long[] w, int cls, int week, int sort, int moved, boolean right) {
        long[] up = new long[5];
        for (int s = 0; s < 5; s++) {
            int learn = ask(0, s, cls, week, sort, moved);
            if (s < 4) up[s + 1] += w[s] * learn;
            up[s] += w[s] * (10 - learn);
        }
        for (int s = 0; s < 5; s++) {
            int r = ask(1, s, cls, week, sort, moved);
            up[s] *= right ? r : 10 - r;
        }
        return up;
    }

    private static int wish(int kind, int number, long[] w, int cls, int week, int bits, boolean lastMoved) {
        boolean now = (bits >> week & 1) == 1;
        boolean before = week > 0 && (bits >> (week - 1) & 1) == 1;
        long all = Arrays.stream(w).sum();
        long high = Arrays.stream(w, cls, 5).sum();
        int twice = week > 0 && now && before && !lastMoved ? 1 : 0;
        int sure = all > 0 && high * 10 >= all * number ? 1 : 0;
        if (kind == 0) return now ? 1 : 0;
        if (kind == 1) return twice;
        if (kind == 2) return number != 0 && (week + 1) % number == 0 ? 1 : 0;
        if (kind == 3) return sure;
        if (kind == 4) return twice == 1 ? 1 : week > 0 && !now && !before ? -1 : 0;
        return sure == 1 ? 1 : all > 0 && 2 * high * 10 < all * number ? -1 : 0;
    }

    private Way follow(P p, int kind, int number, int cls, int weeks, int bits) {
        Way way = new Way(p.w.clone(), cls, 0, 0, false);
        for (int k = 0; k < weeks; k++) {
            long[] w = week(way.w, way.cls, k, p.sort, way.moved, (bits >> k & 1) == 1);
            int by = wish(kind, number, w, way.cls, k, bits, way.lastMoved);
            int to = clamp(way.cls + by);
            way = new Way(w, to, way.moved + (to == way.cls ? 0 : 1), by, to != way.cls);
        }
        return way;
    }

    private Way follow(P p, int marks) {
        return follow(p, p.kind, p.number, p.cls, marks / 100, marks % 100);
    }

    private BigInteger ends(long[] w, int cls, int sort, int moved) {
        BigInteger sum = BigInteger.ZERO;
        for (int s = 0; s < 5; s++) {
            sum = sum.add(BigInteger.valueOf(w[s]).multiply(BigInteger.valueOf(ask(2, s, cls, 5, sort, moved))));
        }
        return sum;
    }

    private BigInteger mean(P p, int kind, int number, int cls) {
        BigInteger sum = BigInteger.ZERO;
        for (int bits = 0; bits < 32; bits++) {
            Way way = follow(p, kind, number, cls, 5, bits);
            sum = sum.add(ends(way.w, way.cls, p.sort, way.moved));
        }
        return sum;
    }

    private BigInteger rights(P p) {
        BigInteger sum = BigInteger.ZERO;
        for (int bits = 0; bits < 32; bits++) {
            long all = Arrays.stream(follow(p, 500 + bits).w).sum();
            sum = sum.add(BigInteger.valueOf(all).multiply(BigInteger.valueOf(Integer.bitCount(bits))));
        }
        return sum;
    }

    private BigInteger best(long[] w, int cls, int sort, int moved, int week) {
        if (week == 5) return ends(w, cls, sort, moved);
        BigInteger sum = BigInteger.ZERO;
        for (boolean right : new boolean[] {true, false}) {
            long[] then = week(w, cls, week, sort, moved, right);
            BigInteger most = BigInteger.ZERO;
            for (int by = -1; by <= 1; by++) {
                int to = clamp(cls + by);
                most = most.max(best(then, to, sort, moved + (to == cls ? 0 : 1), week + 1));
            }
            sum = sum.add(most);
        }
        return sum;
    }

    private static BigInteger all(P p, int weeks) {
        return BigInteger.valueOf(p.all()).multiply(BigInteger.valueOf(100).pow(weeks));
    }

    private static long part(BigInteger above, BigInteger below, int part) {
        if (below.signum() == 0) return part;
        BigInteger g = above.gcd(below);
        return (part == 0 ? above : below).divide(g).longValueExact();
    }

    private static long part(long above, long below, int part) {
        return part(BigInteger.valueOf(above), BigInteger.valueOf(below), part);
    }

    // ---- the calls

    private P at(int i) {
        return i >= 0 && i < pupils.size() ? pupils.get(i) : null;
    }

    private static boolean marks(int marks) {
        if (marks < 0) return false;
        int[] most = {0, 1, 3, 7, 15, 31};
        return marks / 100 < 6 && marks % 100 <= most[marks / 100];
    }

    int pupil(int kind, int rest) {
        if (kind < 0 || kind > 5 || rest < 0 || rest > 439 || rest / 10 % 10 > 3) return -2;
        if (pupils.size() == 8) return -4;
        P p = new P();
        p.kind = kind;
        p.cls = rest / 100;
        p.sort = rest / 10 % 10;
        p.number = rest % 10;
        pupils.add(p);
        return pupils.size() - 1;
    }

    int weigh(int i, int digits) {
        P p = at(i);
        if (p == null || digits < 1 || digits > 99999) return -2;
        int was = (int) p.all();
        String s = String.format("%05d", digits);
        for (int k = 0; k < 5; k++) p.w[k] = s.charAt(4 - k) - '0';
        return was;
    }

    int told(int i, int what) {
        P p = at(i);
        if (p == null || what < 0 || what > 8) return -5;
        if (what >= 4) return (int) p.w[what - 4];
        return new int[] {p.kind, p.cls, p.sort, p.number}[what];
    }

    int feed(int n, long bytes) {
        if (n < 1 || n > 8) return -2;
        if (tape.length() + n > 160) return -4;
        for (int k = 0; k < n; k++) tape.append((char) (bytes >>> 8 * k & 255));
        return tape.length();
    }

    int text() {
        if (texts.size() == 6) return -4;
        List<Token> tokens = tokens(tape.toString());
        tape = new StringBuilder();
        int fault = fault(tokens);
        if (fault >= 0) return -100 - fault;
        texts.add(tokens);
        return texts.size() - 1;
    }

    int force(int text) {
        if (text < 0 || text >= texts.size()) return -2;
        int was = ruling;
        ruling = text;
        return was;
    }

    int says(int where, int who, int key) {
        if (where < 0 || where > 445 || where / 10 % 10 > 4 || where % 10 > 5) return -2;
        if (who < 0 || who > 35 || who % 10 > 5 || key < 0 || key > 2) return -2;
        return ask(key, where / 100, where / 10 % 10, where % 10, who / 10, who % 10);
    }

    long thought(int i, int marks, int step, int part) {
        P p = at(i);
        if (p == null || !marks(marks) || step < 0 || step > 4 || part < 0 || part > 1) return NO;
        long[] w = follow(p, marks).w;
        return part(w[step], Arrays.stream(w).sum(), part);
    }

    int moves(int i, int marks, int what) {
        P p = at(i);
        if (p == null || !marks(marks) || what < 0 || what > 2) return -5;
        Way way = follow(p, marks);
        return new int[] {way.cls, way.moved, way.lastWish}[what];
    }

    long likely(int i, int marks, int what) {
        P p = at(i);
        if (p == null || !marks(marks) || what < 0 || what > 3) return NO;
        Way way = follow(p, marks);
        BigInteger all = BigInteger.valueOf(Arrays.stream(way.w).sum());
        if (what < 2) return part(all, all(p, marks / 100), what);
        return part(BigInteger.valueOf(Arrays.stream(way.w, way.cls, 5).sum()), all, what - 2);
    }

    long mean(int i, int what) {
        P p = at(i);
        if (p == null || what < 0 || what > 7) return NO;
        BigInteger above = BigInteger.ZERO;
        if (what / 2 == 1) above = rights(p);
        if (what / 2 >= 2) above = best(p.w, p.cls, p.sort, 0, 0);
        if (what / 2 == 0) above = mean(p, p.kind, p.number, p.cls);
        if (what / 2 == 3) above = above.subtract(mean(p, p.kind, p.number, p.cls));
        return part(above, all(p, 5), what % 2);
    }

    long off(int i, int by, int part) {
        P p = at(i);
        if (p == null || Math.abs(by) != 1 || part < 0 || part > 1) return NO;
        BigInteger as = mean(p, p.kind, p.number, p.cls);
        return part(as.subtract(mean(p, p.kind, p.number, clamp(p.cls + by))), all(p, 5), part);
    }

    int rule(int i, int what) {
        P p = at(i);
        if (p == null || what < 0 || what > 1) return -2;
        int found = 0;
        BigInteger most = null;
        for (int k = 0; k < (what == 0 ? 10 : 6); k++) {
            BigInteger m = what == 0 ? mean(p, p.kind, k, p.cls) : mean(p, k, p.number, p.cls);
            if (most == null || m.compareTo(most) > 0) {
                most = m;
                found = k;
            }
        }
        return found;
    }

    int room(int bits, int many, int sheet) {
        if (bits < 0 || bits >= 1 << pupils.size() || many < 0 || many > 8 || sheet < 0 || sheet > 3) return -2;
        int[] row = sheets[sheet];
        if (row == null) return -11;
        if (row.length != pupils.size()) return -2;
        for (int m : row) if (!marks(m)) return -2;
        List<int[]> ranks = new ArrayList<>();
        for (int i = 0; i < row.length; i++) {
            if ((bits >> i & 1) == 0) continue;
            Way way = follow(pupils.get(i), row[i]);
            BigInteger all = BigInteger.valueOf(Arrays.stream(way.w).sum());
            BigInteger high = BigInteger.valueOf(Arrays.stream(way.w, way.cls, 5).sum());
            int share = all.signum() == 0 ? 0 : high.multiply(BigInteger.valueOf(10000)).divide(all).intValue();
            ranks.add(new int[] {-share, i});
        }
        ranks.sort((a, b) -> a[0] != b[0] ? a[0] - b[0] : a[1] - b[1]);
        int chosen = 0;
        for (int[] rank : ranks.subList(0, Math.min(many, ranks.size()))) chosen |= 1 << rank[1];
        return chosen;
    }

    private static boolean takes(P p, long[] w) {
        long divisor = 0, sum = 0;
        for (long v : w) {
            divisor = BigInteger.valueOf(divisor).gcd(BigInteger.valueOf(v)).longValue();
            sum += v;
        }
        if (sum == 0 || sum / divisor > 9999) return false;
        for (int s = 0; s < 5; s++) p.w[s] = w[s] / divisor;
        return true;
    }

    int summer(int i, int tenths) {
        P p = at(i);
        if (p == null || tenths < 0 || tenths > 9) return -2;
        long[] w = new long[5];
        for (int s = 0; s < 5; s++) {
            w[s == 0 ? 0 : s - 1] += tenths * p.w[s];
            w[s] += (10 - tenths) * p.w[s];
        }
        return takes(p, w) ? (int) p.all() : -3;
    }

    int test(int i, int marks) {
        P p = at(i);
        if (p == null || !marks(marks)) return -2;
        Way way = follow(p, marks);
        if (!takes(p, way.w)) return -3;
        p.cls = way.cls;
        return p.cls;
    }

    int cut(int n, int sheet, int what) {
        if (n < 1 || n > 10 || sheet < 0 || sheet > 3 || what < 0 || what > 1) return -2;
        int[] row = sheets[sheet];
        if (row == null) return -11;
        if (row.length < 1 || row.length > 10) return -2;
        for (int v : row) if (v < 0 || v > 99) return -2;
        if (row.length < n) return -1;
        long[] found = cutFrom(row, 0, n);
        return (int) found[what];
    }

    /** The least squares from a step on into n classes, and the least ends with them. */
    private static long[] cutFrom(int[] row, int from, int n) {
        long[] found = null;
        long sum = 0;
        for (int end = from; end < row.length; end++) {
            sum += row[end];
            boolean last = end == row.length - 1;
            if (last != (n == 1)) continue;
            long[] rest = n == 1 ? new long[2] : cutFrom(row, end + 1, n - 1);
            if (rest == null) continue;
            long[] mine = {rest[0] + sum * sum, rest[1] | 1L << end};
            if (found == null || mine[0] < found[0] || mine[0] == found[0] && mine[1] < found[1]) found = mine;
        }
        return found;
    }

    int image() {
        for (P p : pupils) {
            p.imageCls = p.cls;
            p.imageW = p.w.clone();
        }
        imageRuling = ruling;
        imageSize = pupils.size();
        return imageSize;
    }

    int back() {
        if (imageSize < 0) return -3;
        for (P p : pupils.subList(0, imageSize)) {
            p.cls = p.imageCls;
            p.w = p.imageW.clone();
        }
        ruling = imageRuling;
        return pupils.size();
    }

    int count(int what) {
        switch (what) {
            case 0: return pupils.size();
            case 1: return texts.size();
            case 2: return tape.length();
            case 3: return ruling;
            case 4: return pupils.stream().mapToInt(p -> (int) p.all()).sum();
            case 5: return pupils.stream().mapToInt(p -> p.cls).sum();
            default: return -2;
        }
    }

    int sheet(int sheet, int sort, int n) {
        if (sheet < 0 || sheet > 3 || sort < -1 || sort > 2) return -2;
        if (sort >= 0 && n > 40) return -2;
        if (sort >= 0 && n < 0) return -14;
        sheets[sheet] = sort < 0 ? null : new int[n];
        sorts[sheet] = sort;
        return 1;
    }

    int cell(int sheet, int i, int v) {
        if (sheet < 0 || sheet > 3) return -2;
        if (sheets[sheet] == null) return -11;
        if (i < 0 || i >= sheets[sheet].length) return -12;
        sheets[sheet][i] = sorts[sheet] == 0 ? (byte) v : sorts[sheet] == 1 ? (short) v : v;
        return 1;
    }

    int copy(int sheet, int i, int other, int j, int n) {
        if (sheet < 0 || sheet > 3 || other < 0 || other > 3) return -2;
        int[] a = sheets[sheet], b = sheets[other];
        if (a == null || b == null) return -11;
        if (sorts[sheet] != sorts[other]) return -13;
        if (n < 0 || i < 0 || j < 0 || (long) i + n > a.length || (long) j + n > b.length) return -12;
        int[] were = a.clone();
        for (int k = 0; k < n; k++) b[j + k] = were[i + k];
        return n;
    }

    int pupils(int sheet, int sort, int from, int n) {
        if (sheet < 0 || sheet > 3 || sort < 0 || sort > 2 || n < 0 || n > 8) return -2;
        int[] row = sheets[sheet];
        if (row != null && sorts[sheet] != sort) return -13;
        if (row == null) return -11;
        int came = 0;
        for (long at = from; at < from + 2L * n; at += 2) {
            if (at < 0 || at + 1 >= row.length) return -12;
            if (pupil(row[(int) at], row[(int) at + 1]) >= 0) came++;
        }
        return came;
    }

    int taken(int i, int k) {
        if (k < 0 || k > 5) return -2;
        P p = at(i);
        if (p == null) return -11;
        String[] over = {"0", "01", "02", "03", "014", "035"};
        return over[p.kind].indexOf((char) ('0' + k)) >= 0 ? p.number : -13;
    }
}
