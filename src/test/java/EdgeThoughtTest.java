import java.math.BigInteger;

/** Edges of promises 9 to 11: which marks there are, how each kind moves at its bounds, what is thought of nothing. */
public final class EdgeThoughtTest {
    private static final int NO_SUCH = Edges.NO_SUCH, MIN = Edges.MIN, MAX = Edges.MAX;
    private static final long NO = Edges.NO;
    private static final int PUPIL = 0, TWICE = 1, TIMED = 2, SURE = 3, BACK = 4, CAREFUL = 5;
    private static final int[] NO_PUPILS = {-1, 6, 7, 8, MAX, MIN};
    private static final Edges EDGES = new Edges();

    public static void main(String[] args) {
        marks();
        refusedThoughts();
        refusedMoves();
        refusedLikely();
        onlyAsks();
        noWeeks();
        allAreNothing();
        lowestTerms();
        weeksGoing();
        allMarksTogether();
        heldClasses();
        lowestBit();
        twice();
        timed();
        sure();
        sureOfAllOrNothing();
        sureThen();
        back();
        careful();
        sorts();
        EDGES.end("EdgeThoughtTest");
    }

    private static void due(String call, long got, long want) {
        EDGES.due(call, got, want);
    }

    /** Pupils of a kind whose class none teaches or tells anything of. */
    private static MovesUp still(int kind, int... rests) {
        MovesUp x = Edges.ruled("learn 0;right 5;end 0;");
        for (int rest : rests) {
            x.pupil(kind, rest);
        }
        return x;
    }

    private static void way(MovesUp x, int pupil, int marks, int cls, int moved, int by) {
        String call = "moves(" + pupil + ", " + marks + ", ";
        due(call + "0)", x.moves(pupil, marks, 0), cls);
        due(call + "1)", x.moves(pupil, marks, 1), moved);
        due(call + "2)", x.moves(pupil, marks, 2), by);
    }

    // ---- what is told

    private static void marks() {
        EDGES.sentence("marks: 100 times how many WEEKS (0 .. 5), and MARKS (bits)");
        int[] most = {0, 1, 3, 7, 15, 31};
        MovesUp x = Edges.usual();
        for (int marks = -700; marks < 1200; marks++) {
            boolean are = marks >= 0 && marks < 600 && marks % 100 <= most[marks / 100];
            due("thought of " + marks, x.thought(1, marks, 0, 0) == NO ? 1 : 0, are ? 0 : 1);
            due("moves of " + marks, x.moves(1, marks, 0) == NO_SUCH ? 1 : 0, are ? 0 : 1);
            due("likely of " + marks, x.likely(1, marks, 0) == NO ? 1 : 0, are ? 0 : 1);
        }
        for (int marks : new int[] {-1, -100, 1, 32, 102, 204, 308, 416, 532, 599, 600, 631, 65536, MAX, MIN}) {
            EDGES.refused(Edges::usual, "thought(0, " + marks + ", 0, 0)", NO, y -> y.thought(0, marks, 0, 0));
            EDGES.refused(Edges::usual, "moves(0, " + marks + ", 0)", NO_SUCH, y -> y.moves(0, marks, 0));
            EDGES.refused(Edges::usual, "likely(0, " + marks + ", 0)", NO, y -> y.likely(0, marks, 0));
        }
    }

    private static void refusedThoughts() {
        EDGES.sentence("thought: part 0 above, 1 below the line. NO: none such");
        for (int pupil : NO_PUPILS) {
            EDGES.refused(Edges::usual, "thought(" + pupil + ", 0, 0, 0)", NO, y -> y.thought(pupil, 0, 0, 0));
        }
        for (int step : new int[] {-1, 5, 6, MAX, MIN}) {
            EDGES.refused(Edges::usual, "thought(0, 0, " + step + ", 0)", NO, y -> y.thought(0, 0, step, 0));
            EDGES.refused(Edges::usual, "thought(0, 531, " + step + ", 1)", NO, y -> y.thought(0, 531, step, 1));
        }
        for (int part : new int[] {-1, 2, 3, MAX, MIN}) {
            EDGES.refused(Edges::usual, "thought(0, 0, 0, " + part + ")", NO, y -> y.thought(0, 0, 0, part));
        }
        EDGES.refused(MovesUp::new, "thought(0, 0, 0, 0) of no pupils", NO, y -> y.thought(0, 0, 0, 0));
        MovesUp x = Edges.full();
        due("the last pupil, week, step", x.thought(7, 531, 4, 1) > 0 ? 1 : 0, 1);
    }

    private static void refusedMoves() {
        EDGES.sentence("moves: CLASS (what 0), how often (1), how (2). -5: none such");
        for (int pupil : NO_PUPILS) {
            EDGES.refused(Edges::usual, "moves(" + pupil + ", 0, 0)", NO_SUCH, y -> y.moves(pupil, 0, 0));
        }
        for (int what : new int[] {-1, 3, 4, MAX, MIN}) {
            EDGES.refused(Edges::usual, "moves(0, 0, " + what + ")", NO_SUCH, y -> y.moves(0, 0, what));
        }
    }

    private static void refusedLikely() {
        EDGES.sentence("likely: how likely MARKS are (what 0, 1), that it stands on its CLASS's STEP (2, 3). NO: none such");
        for (int pupil : NO_PUPILS) {
            EDGES.refused(Edges::usual, "likely(" + pupil + ", 0, 0)", NO, y -> y.likely(pupil, 0, 0));
        }
        for (int what : new int[] {-1, 4, 5, MAX, MIN}) {
            EDGES.refused(Edges::usual, "likely(0, 0, " + what + ")", NO, y -> y.likely(0, 0, what));
        }
    }

    private static void onlyAsks() {
        EDGES.sentence("thought, moves, likely: nothing is so behind it");
        EDGES.onlyAsks(Edges::usual, "thought", y -> y.thought(0, 531, 2, 0) + y.thought(5, 203, 1, 1));
        EDGES.onlyAsks(Edges::usual, "moves", y -> y.moves(0, 531, 0) + y.moves(4, 500, 1) + y.moves(5, 203, 2));
        EDGES.onlyAsks(Edges::usual, "likely", y -> y.likely(0, 531, 0) + y.likely(5, 203, 3));
    }

    // ---- what is thought

    private static void noWeeks() {
        EDGES.sentence("MARKS of so many WEEKS (0 .. 5): of none");
        MovesUp x = Edges.usual();
        for (int pupil = 0; pupil < 6; pupil++) {
            EDGES.due("likely", x.likely(pupil, 0, 0), x.likely(pupil, 0, 1), 1, 1);
            due("class", x.moves(pupil, 0, 0), x.told(pupil, 1));
            due("how often it moved", x.moves(pupil, 0, 1), 0);
        }
        EDGES.due("thought", x.thought(1, 0, 1, 0), x.thought(1, 0, 1, 1), 1, 4);
        EDGES.sentence("how it MOVES behind the last WEEK (2; 0 behind none)");
        for (int kind = 0; kind < 6; kind++) {
            due("kind " + kind, still(kind, 100, 101, 109).moves(1, 0, 2), 0);
        }
    }

    private static void allAreNothing() {
        EDGES.sentence("THOUGHT: (by all; a fraction; 0 by 1, if all are 0)");
        MovesUp x = Edges.ruled("learn 0;right 10*(week=0)+5*(0<week);end 0;");
        x.pupil(PUPIL, 0);
        x.weigh(0, 12345);
        for (int marks : new int[] {100, 200, 202, 300, 306, 530}) {
            for (int step = 0; step < 5; step++) {
                EDGES.due("thought of " + marks, x.thought(0, marks, step, 0), x.thought(0, marks, step, 1), 0, 1);
            }
            EDGES.due("how likely " + marks, x.likely(0, marks, 0), x.likely(0, marks, 1), 0, 1);
            EDGES.due("high enough by " + marks, x.likely(0, marks, 2), x.likely(0, marks, 3), 0, 1);
        }
        EDGES.sentence("a STEP that is not likely at all: 0 by 1");
        x.weigh(0, 10);
        EDGES.due("thought of step 0", x.thought(0, 101, 0, 0), x.thought(0, 101, 0, 1), 0, 1);
        EDGES.due("thought of step 1", x.thought(0, 101, 1, 0), x.thought(0, 101, 1, 1), 1, 1);
        EDGES.due("high enough", still(TIMED, 100).likely(0, 100, 2), still(TIMED, 100).likely(0, 100, 3), 0, 1);
    }

    private static void lowestTerms() {
        EDGES.sentence("in lowest terms");
        MovesUp x = still(TIMED, 100);
        x.weigh(0, 66);
        EDGES.due("a half", x.thought(0, 531, 0, 0), x.thought(0, 531, 0, 1), 1, 2);
        EDGES.due("high enough", x.likely(0, 531, 2), x.likely(0, 531, 3), 1, 2);
        EDGES.due("1 of 32", x.likely(0, 531, 0), x.likely(0, 531, 1), 1, 32);
        x.weigh(0, 36);
        EDGES.due("a third", x.thought(0, 203, 1, 0), x.thought(0, 203, 1, 1), 1, 3);
        EDGES.sentence("THOUGHT of the greatest WEIGHTS: nothing wraps");
        x = Edges.ruled("learn 0;right 9-step*2;end 99;");
        x.pupil(TIMED, 0);
        x.weigh(0, 57489);
        x.test(0, 307);
        // step 0 alone is 9 tenths right: 6561 of 9999 now
        long all = 6561 * 59049L + 2744 * 16807L + 500 * 3125L + 189 * 243L + 5;
        long common = BigInteger.valueOf(6561 * 59049L).gcd(BigInteger.valueOf(all)).longValue();
        EDGES.due("thought", x.thought(0, 531, 0, 0), x.thought(0, 531, 0, 1), 6561 * 59049L / common, all / common);
        long marks = BigInteger.valueOf(9999 * 100000L).gcd(BigInteger.valueOf(all)).longValue();
        EDGES.due("likely", x.likely(0, 531, 0), x.likely(0, 531, 1), all / marks, 9999 * 100000L / marks);
    }

    private static void weeksGoing() {
        EDGES.sentence("of each as many times as learn tells go to the STEP above, 10 less that many times stay");
        for (int learn = 0; learn <= 10; learn++) {
            MovesUp x = Edges.ruled("learn " + learn + ";right 5;end 0;");
            x.pupil(TIMED, 100);
            x.weigh(0, 1000);
            long low = x.thought(0, 100, 3, 0) * (10 / x.thought(0, 100, 3, 1));
            long high = x.thought(0, 100, 4, 0) * (10 / x.thought(0, 100, 4, 1));
            due("stay by learn " + learn, low, 10 - learn);
            due("go by learn " + learn, high, learn);
            EDGES.due("below", x.thought(0, 100, 2, 0), x.thought(0, 100, 2, 1), 0, 1);
        }
        EDGES.sentence("then each is as many times as right tells (if it was RIGHT), else 10 less that many times");
        for (int right = 0; right <= 10; right++) {
            MovesUp x = Edges.ruled("learn 0;right " + right + ";end 0;");
            x.pupil(TIMED, 100);
            due("right " + right, x.likely(0, 101, 0) * (10 / x.likely(0, 101, 1)), right);
            due("wrong " + right, x.likely(0, 100, 0) * (10 / x.likely(0, 100, 1)), 10 - right);
        }
        EDGES.sentence("right: by the STEP behind the WEEK; by the CLASS ahead of the move");
        MovesUp x = Edges.ruled("learn 10*(step<3);right 2*step+class;end 0;");
        x.pupil(TIMED, 101);
        EDGES.due("likely right", x.likely(0, 101, 0), x.likely(0, 101, 1), 3, 10);
        EDGES.due("likely right twice", x.likely(0, 203, 0), x.likely(0, 203, 1), 9, 50);
    }

    /** Of each number of weeks the marks are likely by 1 in all. */
    private static void allMarksTogether() {
        EDGES.sentence("all WEIGHTS of all MARKS together are 100 times as many behind each WEEK");
        MovesUp x = Edges.usual();
        for (int pupil = 0; pupil < 6; pupil++) {
            long all = 0;
            for (int step = 0; step < 5; step++) {
                all += x.told(pupil, 4 + step);
            }
            for (int weeks = 0; weeks <= 5; weeks++, all *= 100) {
                long sum = 0;
                for (int marks = 100 * weeks; marks < 100 * weeks + (1 << weeks); marks++) {
                    long below = x.likely(pupil, marks, 1);
                    due("what is below divides all of " + marks, all % below, 0);
                    sum += x.likely(pupil, marks, 0) * (all / below);
                }
                due("pupil " + pupil + ", " + weeks + " weeks", sum, all);
            }
        }
    }

    // ---- moves

    private static void heldClasses() {
        EDGES.sentence("the CLASS is held 0 .. 4: MOVED if it changes");
        MovesUp x = still(PUPIL, 300, 400);
        way(x, 0, 101, 4, 1, 1);
        way(x, 0, 203, 4, 1, 1);
        way(x, 0, 531, 4, 1, 1);
        way(x, 1, 101, 4, 0, 1);
        way(x, 1, 531, 4, 0, 1);
        x = still(BACK, 100, 0);
        way(x, 0, 200, 0, 1, -1);
        way(x, 0, 300, 0, 1, -1);
        way(x, 0, 500, 0, 1, -1);
        way(x, 1, 200, 0, 0, -1);
        way(x, 1, 500, 0, 0, -1);
        EDGES.sentence("how often it MOVED: at most once behind each WEEK, up or back");
        way(still(TIMED, 1), 0, 500, 4, 4, 1);
        way(still(BACK, 400), 0, 500, 0, 4, -1);
        way(still(BACK, 200), 0, 403, 2, 2, -1);
    }

    private static void lowestBit() {
        EDGES.sentence("MARKS (bits, WEEK 0's the lowest; 1: RIGHT)");
        MovesUp x = still(PUPIL, 0);
        way(x, 0, 201, 1, 1, 0);
        way(x, 0, 202, 1, 1, 1);
        way(x, 0, 501, 1, 1, 0);
        way(x, 0, 516, 1, 1, 1);
        way(x, 0, 515, 4, 4, 0);
        EDGES.sentence("PUPIL: 1, if RIGHT; else 0");
        way(x, 0, 100, 0, 0, 0);
        way(x, 0, 101, 1, 1, 1);
        // only WEEK 2 can be right here
        x = Edges.ruled("learn 0;right 10*(week=2);end 0;");
        x.pupil(PUPIL, 0);
        EDGES.due("likely 504", x.likely(0, 504, 0), x.likely(0, 504, 1), 1, 1);
        EDGES.due("likely 304", x.likely(0, 304, 0), x.likely(0, 304, 1), 1, 1);
        EDGES.due("likely 501", x.likely(0, 501, 0), x.likely(0, 501, 1), 0, 1);
        EDGES.due("likely 200", x.likely(0, 200, 0), x.likely(0, 200, 1), 1, 1);
    }

    private static void twice() {
        EDGES.sentence("TWICE: 1, if RIGHT in this WEEK and in the one ahead");
        MovesUp x = still(TWICE, 0, 400);
        way(x, 0, 200, 0, 0, 0);
        way(x, 0, 201, 0, 0, 0);
        way(x, 0, 202, 0, 0, 0);
        way(x, 0, 203, 1, 1, 1);
        way(x, 0, 305, 0, 0, 0);
        way(x, 0, 306, 1, 1, 1);
        way(x, 0, 521, 0, 0, 0);
        way(x, 0, 524, 1, 1, 1);
        EDGES.sentence("TWICE: (not behind WEEK 0)");
        way(x, 0, 101, 0, 0, 0);
        way(x, 0, 100, 0, 0, 0);
        EDGES.sentence("TWICE: and it did not MOVE behind that one");
        way(x, 0, 307, 1, 1, 0);
        way(x, 0, 415, 2, 2, 1);
        way(x, 0, 531, 2, 2, 0);
        way(x, 0, 530, 2, 2, 1);
        EDGES.sentence("TWICE: it did not MOVE where its CLASS was held");
        way(x, 1, 203, 4, 0, 1);
        way(x, 1, 307, 4, 0, 1);
        way(x, 1, 531, 4, 0, 1);
    }

    private static void timed() {
        EDGES.sentence("TIMED: 1 behind each WEEK of which (WEEK and 1) is a multiple of NUMBER (of 0: never)");
        for (int number = 0; number < 10; number++) {
            MovesUp x = still(TIMED, number);
            for (int weeks = 1; weeks <= 5; weeks++) {
                int up = number == 0 ? 0 : weeks / number;
                int by = number != 0 && weeks == up * number ? 1 : 0;
                way(x, 0, 100 * weeks, Math.min(4, up), Math.min(4, up), by);
                way(x, 0, 100 * weeks + (1 << weeks) - 1, Math.min(4, up), Math.min(4, up), by);
            }
        }
    }

    /** Weights of two steps, beside each other, that are not changed by weeks. */
    private static void sure() {
        EDGES.sentence("SURE: 1, if it is NUMBER tenths likely, or more; else 0");
        for (int number = 0; number < 10; number++) {
            MovesUp sure = still(SURE, 100 + number);
            MovesUp careful = still(CAREFUL, 100 + number);
            EDGES.sentence("SURE, CAREFUL with NUMBER " + number + ", NUMBER tenths likely and less and more");
            for (int low = 0; low < 10; low++) {
                for (int high = low == 0 ? 1 : 0; high < 10; high++) {
                    sure.weigh(0, low + 10 * high);
                    careful.weigh(0, low + 10 * high);
                    int by = 10 * high >= number * (low + high) ? 1 : 0;
                    way(sure, 0, 100, 1 + by, by, by);
                    int back = by == 0 && 20 * high < number * (low + high) ? -1 : by;
                    way(careful, 0, 101, 1 + back, back == 0 ? 0 : 1, back);
                }
            }
        }
        EDGES.sentence("SURE: on its CLASS's STEP, or a higher one");
        for (int cls = 0; cls < 5; cls++) {
            MovesUp x = still(SURE, 100 * cls + 9);
            for (int step = 0, digit = 1; step < 5; step++, digit *= 10) {
                x.weigh(0, digit);
                int by = step >= cls ? 1 : 0;
                way(x, 0, 100, Math.min(4, cls + by), cls == 4 ? 0 : by, by);
            }
        }
    }

    private static void sureOfAllOrNothing() {
        EDGES.sentence("SURE: else 0 (also if all are 0)");
        MovesUp x = Edges.ruled("learn 0;right 10;end 0;");
        for (int number : new int[] {0, 5, 9}) {
            int sure = x.pupil(SURE, 200 + number);
            int careful = x.pupil(CAREFUL, 200 + number);
            x.weigh(sure, 1);
            x.weigh(careful, 1);
            way(x, sure, 100, 2, 0, 0);
            EDGES.sentence("CAREFUL: (not if all are 0): NUMBER " + number);
            way(x, careful, 100, 2, 0, 0);
            way(x, careful, 200, 2, 0, 0);
        }
        EDGES.sentence("SURE, CAREFUL: where all are 1");
        MovesUp one = Edges.ruled("learn 1;right step;end 0;");
        one.pupil(SURE, 109);
        one.pupil(CAREFUL, 209);
        way(one, 0, 101, 2, 1, 1);
        way(one, 1, 101, 1, 1, -1);
        EDGES.sentence("SURE with NUMBER 0: also of what is not likely at all");
        way(x, 0, 101, 3, 1, 1);
        way(x, 0, 203, 4, 2, 1);
        EDGES.sentence("CAREFUL with NUMBER 0: nothing lies below");
        way(x, 1, 101, 3, 1, 1);
        EDGES.sentence("CAREFUL: -1 of what is not likely at all");
        way(x, 3, 101, 1, 1, -1);
        way(x, 5, 101, 1, 1, -1);
    }

    private static void sureThen() {
        EDGES.sentence("SURE: by all WEIGHTS now: those behind the WEEK, with its Friday");
        MovesUp x = Edges.ruled("learn 10*(week=0);right 5;end 0;");
        x.pupil(SURE, 109);
        way(x, 0, 100, 2, 1, 1);
        way(x, 0, 200, 2, 1, 0);
        x = Edges.ruled("learn 0;right 9*step;end 0;");
        x.pupil(SURE, 109);
        x.weigh(0, 11);
        way(x, 0, 101, 2, 1, 1);
        way(x, 0, 100, 1, 0, 0);
        EDGES.sentence("SURE: its CLASS, ahead of the move");
        x = still(SURE, 9);
        x.weigh(0, 100);
        way(x, 0, 100, 1, 1, 1);
        way(x, 0, 300, 3, 3, 1);
        way(x, 0, 400, 3, 3, 0);
        EDGES.sentence("likely (2, 3): its CLASS then, behind the move");
        EDGES.due("in class 2", x.likely(0, 200, 2), x.likely(0, 200, 3), 1, 1);
        EDGES.due("in class 3", x.likely(0, 300, 2), x.likely(0, 300, 3), 0, 1);
    }

    private static void back() {
        EDGES.sentence("BACK: if that is 0, and it was wrong in this WEEK and the one ahead: -1");
        MovesUp x = still(BACK, 200);
        way(x, 0, 200, 1, 1, -1);
        way(x, 0, 201, 2, 0, 0);
        way(x, 0, 202, 2, 0, 0);
        way(x, 0, 301, 1, 1, -1);
        way(x, 0, 304, 1, 1, 0);
        EDGES.sentence("BACK: (not ahead of WEEK 0)");
        way(x, 0, 100, 2, 0, 0);
        EDGES.sentence("BACK: back also where it MOVED behind the one ahead");
        way(x, 0, 300, 0, 2, -1);
        way(still(BACK, 400), 0, 500, 0, 4, -1);
        EDGES.sentence("BACK: as a TWICE");
        way(x, 0, 101, 2, 0, 0);
        way(x, 0, 203, 3, 1, 1);
        way(x, 0, 307, 3, 1, 0);
        way(x, 0, 415, 4, 2, 1);
        EDGES.sentence("BACK: up not where it MOVED back behind the one ahead");
        way(x, 0, 512, 2, 2, 0);
        way(x, 0, 412, 2, 2, 1);
    }

    private static void careful() {
        EDGES.sentence("CAREFUL: if twice how likely that is lies below NUMBER tenths: -1");
        MovesUp x = still(CAREFUL, 108, 109);
        x.weigh(0, 23);
        x.weigh(1, 23);
        // 4 tenths: twice that is 8 tenths
        way(x, 0, 100, 1, 0, 0);
        way(x, 1, 100, 0, 1, -1);
        EDGES.sentence("CAREFUL: goes back to where it is sure");
        way(x, 1, 200, 1, 2, 1);
        way(x, 1, 300, 0, 3, -1);
        way(x, 1, 500, 0, 5, -1);
        EDGES.sentence("CAREFUL: held in CLASS 0, where all STEPS are high enough");
        x = still(CAREFUL, 9);
        way(x, 0, 100, 1, 1, 1);
        way(x, 0, 200, 0, 2, -1);
    }

    private static void sorts() {
        EDGES.sentence("sort: each PUPIL by its own");
        MovesUp x = Edges.ruled("learn 0;right 1+sort;end 0;");
        for (int sort = 0; sort < 4; sort++) {
            x.pupil(TIMED, 10 * sort);
        }
        for (int round = 0; round < 2; round++) {
            for (int sort = 0; sort < 4; sort++) {
                due("sort " + sort, x.likely(sort, 101, 0) * (10 / x.likely(sort, 101, 1)), 1 + sort);
            }
        }
    }
}
