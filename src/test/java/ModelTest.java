import java.util.Random;

/** Runs of 512 calls, drawn from fixed seeds, on MovesUp and on the model: every answer must be the same. */
public final class ModelTest {
    private static final int RUNS = 220, CALLS = 512;
    private static final int[] ODD = {-1, -2, 5, 6, 8, 9, 10, 40, 41, 100, 600, 1000000, Integer.MAX_VALUE,
        Integer.MIN_VALUE, Integer.MAX_VALUE - 1, Integer.MIN_VALUE + 1};
    private final Random luck;
    private final MovesUp real = new MovesUp();
    private final Model model = new Model();
    private String pending = "";
    private int pupilsSoFar = 0;

    private ModelTest(long seed) {
        luck = new Random(seed);
    }

    public static void main(String[] args) {
        int wrong = 0;
        long[] calls = new long[26];
        for (int seed = 0; seed < RUNS && wrong < 20; seed++) {
            ModelTest run = new ModelTest(seed);
            StringBuilder trail = new StringBuilder();
            for (int c = 0; c < CALLS; c++) {
                String told = run.call(calls, trail);
                if (told != null) {
                    wrong++;
                    System.out.println("seed " + seed + ", call " + c + ": " + told);
                    break;
                }
            }
        }
        System.out.println("ModelTest: " + RUNS + " runs, " + wrong + " wrong");
        for (int i = 0; i < calls.length; i++) {
            if (calls[i] == 0) {
                System.out.println("never called: " + i);
                wrong++;
            }
        }
        if (wrong != 0) System.exit(1);
    }

    private int odd() {
        return ODD[luck.nextInt(ODD.length)];
    }

    /** A number from 0 to most, seldom another. */
    private int upTo(int most) {
        return luck.nextInt(25) == 0 ? odd() : luck.nextInt(most + 1);
    }

    private int marks() {
        if (luck.nextInt(25) == 0) return luck.nextBoolean() ? odd() : luck.nextInt(700);
        int weeks = luck.nextInt(6);
        return 100 * weeks + luck.nextInt(1 << weeks);
    }

    private int rest() {
        if (luck.nextInt(12) == 0) return luck.nextBoolean() ? odd() : luck.nextInt(600);
        return 100 * luck.nextInt(5) + 10 * luck.nextInt(4) + luck.nextInt(10);
    }

    private int which() {
        return luck.nextInt(25) == 0 ? odd() : luck.nextInt(Math.max(1, pupilsSoFar));
    }

    private int value() {
        switch (luck.nextInt(4)) {
            case 0: return luck.nextInt(100);
            case 1: return rest();
            case 2: return marks();
            default: return luck.nextInt(8);
        }
    }

    private String one(int depth) {
        int k = luck.nextInt(depth > 5 ? 2 : 5);
        if (k == 0) return "" + luck.nextInt(luck.nextInt(8) == 0 ? 10000 : 12);
        if (k < 3) return new String[] {"step", "class", "week", "sort", "moved", "left"}[luck.nextInt(6)];
        if (k == 3) return "-" + blank() + one(depth + 1);
        return "(" + either(depth + 1) + ")";
    }

    private String blank() {
        return new String[] {"", " ", "\n", "  "}[luck.nextInt(4)];
    }

    private String sum(int depth) {
        StringBuilder b = new StringBuilder(one(depth));
        while (luck.nextInt(5) < 2) b.append(blank()).append("+-*".charAt(luck.nextInt(3))).append(blank()).append(one(depth));
        return b.toString();
    }

    private String not(int depth) {
        if (luck.nextInt(8) == 0) return "not " + not(depth + 1);
        String sum = sum(depth);
        return luck.nextInt(4) == 0 ? sum + blank() + (luck.nextBoolean() ? "<" : "=") + blank() + sum(depth) : sum;
    }

    private String either(int depth) {
        StringBuilder b = new StringBuilder(not(depth));
        while (luck.nextInt(6) == 0) b.append(luck.nextBoolean() ? " or " : " and ").append(not(depth));
        return b.toString();
    }

    private String newText() {
        String s = "learn " + either(luck.nextInt(4)) + ";right " + either(luck.nextInt(4)) + ";end " + either(luck.nextInt(4)) + ";" + blank();
        if (luck.nextInt(4) == 0) s = s.replace("learn ", "learn 4+").replace("right ", "right 3+").replace("end ", "end 30+");
        if (luck.nextInt(6) == 0) {
            int at = luck.nextInt(s.length());
            String put = new String[] {"", "", "-", "(", ")", "not ", "7", "x", "\t", "\u00e9", "!", ";", "end", " ", "12345", "<"}[luck.nextInt(16)];
            s = s.substring(0, at) + put + s.substring(at + luck.nextInt(2));
        }
        return s;
    }

    /** Feeds the pending text on, or begins one. */
    private String feeding(StringBuilder trail) {
        if (luck.nextInt(20) == 0) {
            int n = luck.nextBoolean() ? odd() : luck.nextInt(10);
            long v = luck.nextLong();
            return same("feed", real.feed(n, v), model.feed(n, v), trail, n, v);
        }
        if (pending.isEmpty()) pending = newText();
        String told = null;
        for (int k = 0; k < 30 && !pending.isEmpty() && told == null; k++) {
            int n = Math.min(8, pending.length());
            long v = luck.nextLong();
            if (n == 8) v = 0;
            else v = v << (8 * n);
            for (int i = 0; i < n; i++) v |= (long) pending.charAt(i) << (8 * i);
            pending = pending.substring(n);
            told = same("feed", real.feed(n, v), model.feed(n, v), trail, n, v);
        }
        return told != null ? told : same("text", real.text(), model.text(), trail);
    }

    private static String same(String name, long real, long model, StringBuilder trail, long... args) {
        trail.append(name).append(java.util.Arrays.toString(args)).append(" = ").append(real).append("; ");
        if (real == model) return null;
        String all = trail.toString();
        return name + java.util.Arrays.toString(args) + " answered " + real + ", due is " + model
            + " behind " + all.substring(Math.max(0, all.length() - 1500));
    }

    private String call(long[] calls, StringBuilder t) {
        int k = luck.nextInt(26);
        calls[k]++;
        int p = which(), m = marks(), a = upTo(3), b = upTo(40), c = upTo(8), d = upTo(40), e = upTo(9);
        pupilsSoFar = model.count(0);
        switch (k) {
            case 0: return same("pupil", real.pupil(a = upTo(5), b = rest()), model.pupil(a, b), t, a, b);
            case 1: a = luck.nextInt(9) == 0 ? odd() : luck.nextInt(100001) % (int) Math.pow(10, 1 + luck.nextInt(6));
                return same("weigh", real.weigh(p, a), model.weigh(p, a), t, p, a);
            case 2: return same("told", real.told(p, c), model.told(p, c), t, p, c);
            case 3: return feeding(t);
            case 4: return luck.nextInt(3) == 0 ? same("text", real.text(), model.text(), t) : feeding(t);
            case 5: a = upTo(5); return same("force", real.force(a), model.force(a), t, a);
            case 6: a = luck.nextInt(9) == 0 ? odd() : luck.nextInt(460); b = upTo(36); c = upTo(2);
                return same("says", real.says(a, b, c), model.says(a, b, c), t, a, b, c);
            case 7: c = upTo(4); a = upTo(1);
                return same("thought", real.thought(p, m, c, a), model.thought(p, m, c, a), t, p, m, c, a);
            case 8: a = upTo(2); return same("moves", real.moves(p, m, a), model.moves(p, m, a), t, p, m, a);
            case 9: return same("likely", real.likely(p, m, a), model.likely(p, m, a), t, p, m, a);
            case 10: a = upTo(luck.nextInt(4) == 0 ? 7 : 3);
                return same("mean", real.mean(p, a), model.mean(p, a), t, p, a);
            case 11: a = luck.nextInt(9) == 0 ? odd() : luck.nextBoolean() ? 1 : -1; c = upTo(1);
                return same("off", real.off(p, a, c), model.off(p, a, c), t, p, a, c);
            case 12: c = upTo(1); return same("rule", real.rule(p, c), model.rule(p, c), t, p, c);
            case 13: return rooms(t);
            case 14: return same("summer", real.summer(p, e), model.summer(p, e), t, p, e);
            case 15: if (luck.nextInt(3) > 0) m = luck.nextInt(25) == 0 ? 0 : 100 + luck.nextInt(2);
                return same("test", real.test(p, m), model.test(p, m), t, p, m);
            case 16: return cuts(t);
            case 17: return luck.nextInt(4) == 0 ? same("image", real.image(), model.image(), t) : null;
            case 18: return luck.nextInt(3) == 0 ? same("back", real.back(), model.back(), t) : null;
            case 19: c = upTo(5); return same("count", real.count(c), model.count(c), t, c);
            case 20: c = luck.nextInt(5) - 1; b = luck.nextBoolean() ? b : luck.nextInt(12);
                return same("sheet", real.sheet(a, c, b), model.sheet(a, c, b), t, a, c, b);
            case 21: case 22: return cells(a, t);
            case 23: c = luck.nextInt(30) == 0 ? odd() : luck.nextInt(4); b = luck.nextInt(6); d = luck.nextInt(6); e = upTo(8);
                if (luck.nextInt(9) == 0) b = odd();
                if (luck.nextInt(9) == 0) d = odd();
                return same("copy", real.copy(a, b, c, d, e), model.copy(a, b, c, d, e), t, a, b, c, d, e);
            case 24: b = luck.nextInt(9) == 0 ? odd() : luck.nextInt(8); c = upTo(2); d = upTo(luck.nextBoolean() ? 8 : 2);
                return same("pupils", real.pupils(a, c, b, d), model.pupils(a, c, b, d), t, a, c, b, d);
            default: c = upTo(5); return same("taken", real.taken(p, c), model.taken(p, c), t, p, c);
        }
    }

    private String cells(int a, StringBuilder t) {
        String told = null;
        for (int i = 0; i < 6 && told == null; i++) {
            int at = luck.nextInt(20) == 0 ? odd() : luck.nextInt(12), v = luck.nextInt(15) == 0 ? luck.nextInt() : value();
            told = same("cell", real.cell(a, at, v), model.cell(a, at, v), t, a, at, v);
        }
        return told;
    }

    private String rooms(StringBuilder t) {
        int a = upTo(3), b = upTo(luck.nextBoolean() ? 8 : 2), c = luck.nextInt(1 << pupilsSoFar);
        if (luck.nextInt(12) == 0) c = luck.nextBoolean() ? odd() : 1 << pupilsSoFar;
        String told = null;
        if (luck.nextInt(5) > 0) {
            told = same("sheet", real.sheet(a, 1, pupilsSoFar), model.sheet(a, 1, pupilsSoFar), t, a, 1, pupilsSoFar);
            for (int i = 0; i < pupilsSoFar && told == null; i++) {
                int m = luck.nextInt(60) == 0 ? 333 : 100 * luck.nextInt(6);
                if (m != 333) m += luck.nextInt(1 << (m / 100));
                told = same("cell", real.cell(a, i, m), model.cell(a, i, m), t, a, i, m);
            }
        }
        return told != null ? told : same("room", real.room(c, b, a), model.room(c, b, a), t, c, b, a);
    }

    private String cuts(StringBuilder t) {
        int a = upTo(3), n = luck.nextInt(12), size = luck.nextInt(12), most = luck.nextBoolean() ? 100 : 4;
        int c = upTo(1);
        String told = same("sheet", real.sheet(a, 2, size), model.sheet(a, 2, size), t, a, 2, size);
        for (int i = 0; i < size && told == null; i++) {
            int v = luck.nextInt(120) == 0 ? -1 : luck.nextInt(most);
            told = same("cell", real.cell(a, i, v), model.cell(a, i, v), t, a, i, v);
        }
        return told != null ? told : same("cut", real.cut(n, a, c), model.cut(n, a, c), t, n, a, c);
    }
}
