/** Edges of promises 12 to 14: what one can at the end, what a class too high or low costs, which bar and rule is best. */
public final class EdgeRulesTest {
    private static final int BAD = Edges.BAD, MIN = Edges.MIN, MAX = Edges.MAX;
    private static final long NO = Edges.NO;
    private static final int PUPIL = 0, TWICE = 1, TIMED = 2, SURE = 3, BACK = 4, CAREFUL = 5;
    private static final int[] NO_PUPILS = {-1, 6, 7, 8, MAX, MIN};
    private static final Edges EDGES = new Edges();

    public static void main(String[] args) {
        refusedMeans();
        meanOfNothing();
        meanOfMost();
        rights();
        atTheEnd();
        best();
        bestByMarks();
        bestOfHeld();
        loses();
        refusedOffs();
        off();
        offHeld();
        refusedRules();
        bar();
        barOfOthers();
        plainRule();
        EDGES.end("EdgeRulesTest");
    }

    private static void due(String call, long got, long want) {
        EDGES.due(call, got, want);
    }

    /** The fraction that mean() tells from a what on. */
    private static void mean(MovesUp x, int pupil, int what, long above, long below) {
        String call = "mean(" + pupil + ", " + what + ")";
        EDGES.due(call, x.mean(pupil, what), x.mean(pupil, what + 1), above, below);
    }

    private static MovesUp one(String text, int kind, int rest, int digits) {
        MovesUp x = Edges.ruled(text);
        x.pupil(kind, rest);
        x.weigh(0, digits);
        return x;
    }

    // ---- mean

    private static void refusedMeans() {
        EDGES.sentence("mean: MEAN (what 0, 1), RIGHTS (2, 3), BEST (4, 5), LOSES (6, 7). NO: none such");
        for (int pupil : NO_PUPILS) {
            EDGES.refused(Edges::usual, "mean(" + pupil + ", 0)", NO, y -> y.mean(pupil, 0));
            EDGES.refused(Edges::usual, "mean(" + pupil + ", 7)", NO, y -> y.mean(pupil, 7));
        }
        for (int what : new int[] {-1, 8, 9, MAX, MIN}) {
            EDGES.refused(Edges::usual, "mean(0, " + what + ")", NO, y -> y.mean(0, what));
            EDGES.refused(Edges::usual, "mean(5, " + what + ")", NO, y -> y.mean(5, what));
        }
        EDGES.refused(MovesUp::new, "mean(0, 0) of no pupils", NO, y -> y.mean(0, 0));
    }

    private static void meanOfNothing() {
        EDGES.sentence("MEAN, RIGHTS, BEST, LOSES of 0: 0 by 1");
        MovesUp x = one("learn 0;right 0;end 0;", PUPIL, 0, 99999);
        for (int what = 0; what < 8; what += 2) {
            mean(x, 0, what, 0, 1);
        }
        EDGES.sentence("MEAN over all MARKS: also where all but one are never so");
        x = one("learn 0;right 10;end class*10+moved;", PUPIL, 0, 1);
        mean(x, 0, 0, 44, 1);
        mean(x, 0, 2, 5, 1);
        x = one("learn 0;right 0;end class*10+moved;", BACK, 400, 1);
        mean(x, 0, 0, 4, 1);
        // back, up, back, up
        mean(x, 0, 4, 44, 1);
        mean(x, 0, 6, 40, 1);
    }

    private static void meanOfMost() {
        EDGES.sentence("MEAN of the greatest WEIGHTS, ends: nothing wraps");
        MovesUp x = one("learn 0;right 9-step*2;end 99;", TIMED, 0, 57489);
        x.test(0, 307);
        due("count(4)", x.count(4), 9999);
        mean(x, 0, 0, 99, 1);
        mean(x, 0, 4, 99, 1);
        mean(x, 0, 6, 0, 1);
        // 9 7 5 3 1 tenths of 6561 2744 500 189 5, five weeks long: 5 times 81329 by 99990
        mean(x, 0, 2, 6561 * 9 + 2744 * 7 + 500 * 5 + 189 * 3 + 5, 19998);
        EDGES.sentence("MEAN in lowest terms");
        x = one("learn 0;right 5;end 2*step;", TIMED, 0, 30);
        mean(x, 0, 0, 2, 1);
        x.weigh(0, 33);
        mean(x, 0, 0, 1, 1);
        x.weigh(0, 12);
        mean(x, 0, 0, 2, 3);
        EDGES.sentence("MEAN, RIGHTS, BEST, LOSES: nothing is so behind it");
        EDGES.onlyAsks(Edges::usual, "mean", y -> y.mean(0, 0) + y.mean(1, 2) + y.mean(2, 4) + y.mean(3, 6) + y.mean(5, 7));
    }

    private static void rights() {
        EDGES.sentence("RIGHTS: likewise how many WEEKS are RIGHT");
        for (int right = 0; right <= 10; right++) {
            MovesUp x = one("learn 0;right " + right + ";end 0;", CAREFUL, 105, 12345);
            due("right " + right, x.mean(0, 2) * (2 / x.mean(0, 3)), right);
        }
        for (int week = 0; week < 5; week++) {
            MovesUp x = one("learn 0;right (week=" + week + ")*10;end 0;", PUPIL, 0, 1);
            mean(x, 0, 2, 1, 1);
        }
    }

    private static void atTheEnd() {
        EDGES.sentence("end: class as it is then: behind the move of the last WEEK");
        mean(one("learn 0;right 5;end class;", TIMED, 5, 1), 0, 0, 1, 1);
        mean(one("learn 0;right 5;end moved;", TIMED, 5, 1), 0, 0, 1, 1);
        mean(one("learn 0;right 5;end class;", TIMED, 6, 1), 0, 0, 0, 1);
        EDGES.sentence("end times WEIGHT: by the STEP behind the last WEEK");
        mean(one("learn 10*(week=4);right 5;end step;", TIMED, 0, 1), 0, 0, 1, 1);
        mean(one("learn 10*(3<week);right 5;end step;", TIMED, 0, 1000), 0, 0, 4, 1);
        EDGES.sentence("WEEKS are 0 .. 4 (5 in all)");
        mean(one("learn 10*(week=5 or week<0);right 5;end step;", TIMED, 0, 1), 0, 0, 0, 1);
        mean(one("learn 10*(week<4);right 5;end step;", TIMED, 0, 1), 0, 0, 4, 1);
        mean(one("learn 10*(left=0);right 5;end step;", TIMED, 0, 1), 0, 0, 1, 1);
        mean(one("learn 10*(left=4);right 5;end step;", TIMED, 0, 1), 0, 0, 1, 1);
        mean(one("learn 10*(4<left);right 5;end step;", TIMED, 0, 1), 0, 0, 0, 1);
        EDGES.sentence("moved: so far, ahead of the WEEK's move");
        mean(one("learn 10*(moved=week);right 5;end step;", TIMED, 1, 1), 0, 0, 4, 1);
        mean(one("learn 10*(moved=1);right 5;end step;", TIMED, 1, 1), 0, 0, 1, 1);
        mean(one("learn 0;right 10*(moved=week);end 0;", TIMED, 1, 1), 0, 2, 5, 1);
        // held in class 4: moved is 4 in the end
        mean(one("learn 0;right 5;end moved;", TIMED, 1, 1), 0, 0, 4, 1);
    }

    // ---- best

    private static void best() {
        EDGES.sentence("BEST: behind each WEEK one of -1, 0, 1");
        int[] far = {0, 0, 0, 0, 0};
        for (int from = 0; from < 5; from++) {
            for (int to = 0; to < 5; to++) {
                MovesUp x = one("learn 0;right 5;end 7*(class=" + to + ");", BACK, 100 * from, 1);
                mean(x, 0, 4, 7, 1);
                for (int week = 0; week < 5; week++) {
                    String text = "learn 10*(week=" + week + " and class=" + to + ");right 5;end step;";
                    int can = Math.abs(from - to) <= week ? 1 : 0;
                    mean(one(text, BACK, 100 * from, 1), 0, 4, can, 1);
                    far[week] += can;
                }
            }
        }
        due("classes that are near in week 0", far[0], 5);
        due("classes that are near in week 4", far[4], 25);
        EDGES.sentence("BEST: also behind the last WEEK");
        mean(one("learn 0;right 5;end 5*moved;", PUPIL, 200, 1), 0, 4, 25, 1);
        mean(one("learn 0;right 5;end 5*(moved=5)*(class=3);", PUPIL, 200, 1), 0, 4, 5, 1);
        mean(one("learn 0;right 5;end 5*(moved=5)*(class=2);", PUPIL, 200, 1), 0, 4, 0, 1);
        mean(one("learn 0;right 5;end 5*(moved=4)*(class=2);", PUPIL, 200, 1), 0, 4, 5, 1);
    }

    private static void bestByMarks() {
        EDGES.sentence("BEST: as MARKS are so far");
        // the last Friday tells which step it is: class 0 for step 0, class 1 for step 1
        mean(one("learn 0;right 10*step;end 9*(class=step);", PUPIL, 0, 11), 0, 4, 9, 1);
        mean(one("learn 0;right 10*step*(week=4);end 9*(class=step);", PUPIL, 0, 11), 0, 4, 9, 1);
        EDGES.sentence("BEST: MARKS that tell nothing don't help");
        mean(one("learn 0;right 5;end 9*(class=step);", PUPIL, 0, 11), 0, 4, 9, 2);
        mean(one("learn 0;right 5;end 9*(class=step);", PUPIL, 0, 12), 0, 4, 6, 1);
        EDGES.sentence("BEST: no later MARKS");
        // 0 or 4 is the class to be in: from 2, known behind WEEK 3, both are near, behind WEEK 4 but one
        mean(one("learn 0;right 10*step*(week=3);end 9*(class=4*step);", PUPIL, 0, 11), 0, 4, 9, 1);
        mean(one("learn 0;right 10*step*(week=4);end 9*(class=4*step);", PUPIL, 0, 11), 0, 4, 9, 2);
        EDGES.sentence("BEST: also by MARKS whose WEIGHTS are 1 in all");
        mean(one("learn 9;right (step=0);end 9;", PUPIL, 0, 1), 0, 4, 9, 1);
        EDGES.sentence("BEST: by MARKS that are never so, nothing");
        mean(one("learn 0;right 10;end 99-moved-class;", PUPIL, 0, 1), 0, 4, 99, 1);
    }

    private static void bestOfHeld() {
        EDGES.sentence("BEST: the CLASS is held 0 .. 4: MOVED if it changes");
        mean(one("learn 0;right 5;end 9-moved;", TIMED, 401, 1), 0, 4, 9, 1);
        mean(one("learn 0;right 5;end 9-moved;", TIMED, 1, 1), 0, 4, 9, 1);
        mean(one("learn 0;right 5;end 9*(class=4)+moved;", TIMED, 401, 1), 0, 4, 13, 1);
        mean(one("learn 0;right 5;end 9*(class=0)+moved;", TIMED, 1, 1), 0, 4, 13, 1);
        mean(one("learn 0;right 5;end 9*(class=4)*(moved=0);", TIMED, 401, 1), 0, 4, 9, 1);
        mean(one("learn 0;right 5;end 9*(class=4)*(moved=1);", TIMED, 401, 1), 0, 4, 0, 1);
        EDGES.sentence("BEST: how often it MOVED, 5 times at most");
        mean(one("learn 0;right 5;end 9*(moved=5);", TIMED, 1, 1), 0, 4, 9, 1);
        mean(one("learn 0;right 5;end 9*(5<moved);", TIMED, 1, 1), 0, 4, 0, 1);
    }

    private static void loses() {
        EDGES.sentence("LOSES: BEST less MEAN; never below 0, by any KIND");
        for (int kind = 0; kind < 6; kind++) {
            for (int rest = 0; rest < 500; rest += 117) {
                MovesUp x = new MovesUp();
                x.pupil(kind, rest / 10 % 10 > 3 ? rest - 50 : rest);
                x.weigh(0, 54321 + rest);
                due("loses, kind " + kind + ", rest " + rest, x.mean(0, 6) >= 0 ? 1 : 0, 1);
                long best = x.mean(0, 4) * x.mean(0, 1) * x.mean(0, 7);
                long mean = x.mean(0, 0) * x.mean(0, 5) * x.mean(0, 7);
                due("best less mean", (best - mean) - x.mean(0, 6) * x.mean(0, 5) * x.mean(0, 1), 0);
            }
        }
        EDGES.sentence("LOSES: 0 by 1, if MEAN is BEST");
        mean(one("learn 0;right 5;end class;", TIMED, 1, 12345), 0, 6, 0, 1);
        mean(one("learn 0;right 5;end 8;", CAREFUL, 9, 12345), 0, 6, 0, 1);
        EDGES.sentence("LOSES: all, if MEAN is 0");
        mean(one("learn 0;right 5;end 9*(class=1);", TIMED, 0, 1), 0, 6, 9, 1);
    }

    // ---- off

    private static void refusedOffs() {
        EDGES.sentence("off: TOO HIGH (by 1), TOO LOW (-1): part as of thought(). NO: none such");
        for (int by : new int[] {0, 2, -2, 3, 256, MAX, MIN}) {
            EDGES.refused(Edges::usual, "off(1, " + by + ", 0)", NO, y -> y.off(1, by, 0));
        }
        for (int part : new int[] {-1, 2, 3, MAX, MIN}) {
            EDGES.refused(Edges::usual, "off(1, 1, " + part + ")", NO, y -> y.off(1, 1, part));
            EDGES.refused(Edges::usual, "off(1, -1, " + part + ")", NO, y -> y.off(1, -1, part));
        }
        for (int pupil : NO_PUPILS) {
            EDGES.refused(Edges::usual, "off(" + pupil + ", 1, 0)", NO, y -> y.off(pupil, 1, 0));
        }
    }

    private static void off(MovesUp x, int pupil, int by, long above, long below) {
        EDGES.due("off(" + pupil + ", " + by + ")", x.off(pupil, by, 0), x.off(pupil, by, 1), above, below);
    }

    private static void off() {
        EDGES.sentence("TOO HIGH, TOO LOW: MEAN as it is less MEAN, were its CLASS as it begins 1 more, 1 less");
        MovesUp x = one("learn 0;right 5;end 3*class*class;", TIMED, 200, 1);
        off(x, 0, 1, 12 - 27, 1);
        off(x, 0, -1, 12 - 3, 1);
        x = one("learn 0;right 5;end 3*class*class*step;", TIMED, 200, 12);
        off(x, 0, 1, -5, 1);
        off(x, 0, -1, 3, 1);
        EDGES.sentence("off: in lowest terms, what is below never below 0");
        x.weigh(0, 24);
        off(x, 0, 1, -5, 1);
        x.weigh(0, 13);
        off(x, 0, 1, -15, 4);
        off(x, 0, -1, 9, 4);
        EDGES.sentence("TOO HIGH, TOO LOW: were its CLASS so; it is not");
        EDGES.onlyAsks(Edges::usual, "off", y -> y.off(1, 1, 0) + y.off(1, -1, 0) + y.off(3, 1, 1) + y.off(5, -1, 1));
    }

    private static void offHeld() {
        EDGES.sentence("TOO HIGH, TOO LOW: (held)");
        for (int kind = 0; kind < 6; kind++) {
            off(one("learn 3;right 2+step;end 7*class+step;", kind, 405, 12345), 0, 1, 0, 1);
            off(one("learn 3;right 2+step;end 7*class+step;", kind, 5, 12345), 0, -1, 0, 1);
        }
        off(one("learn 0;right 5;end class;", TIMED, 400, 1), 0, -1, 1, 1);
        off(one("learn 0;right 5;end class;", TIMED, 0, 1), 0, 1, -1, 1);
        off(one("learn 0;right 5;end class;", TIMED, 300, 1), 0, 1, -1, 1);
        off(one("learn 0;right 5;end class;", TIMED, 100, 1), 0, -1, 1, 1);
    }

    // ---- rule

    private static void refusedRules() {
        EDGES.sentence("rule: BAR (what 0), A PLAIN RULE (1). BAD");
        for (int pupil : NO_PUPILS) {
            EDGES.refused(Edges::usual, "rule(" + pupil + ", 0)", BAD, y -> y.rule(pupil, 0));
            EDGES.refused(Edges::usual, "rule(" + pupil + ", 1)", BAD, y -> y.rule(pupil, 1));
        }
        for (int what : new int[] {-1, 2, 3, MAX, MIN}) {
            EDGES.refused(Edges::usual, "rule(1, " + what + ")", BAD, y -> y.rule(1, what));
        }
    }

    private static void bar() {
        EDGES.sentence("BAR: the NUMBER (0 .. 9) by which MEAN would be greatest; of like ones the least");
        // with so many of nine in step 1 it is so sure to be in class 1; class 2 would cost
        int[] bars = {0, 2, 3, 4, 5, 6, 7, 8, 9};
        for (int high = 1; high < 9; high++) {
            MovesUp x = one("learn 0;right 5;end 9*(class=1);", SURE, 100, 10 * high + 9 - high);
            due("bar of " + high + " ninths", x.rule(0, 0), bars[high]);
        }
        due("bar that is 0", one("learn 0;right 5;end class;", SURE, 109, 19).rule(0, 0), 0);
        due("bar that is 9", one("learn 0;right 5;end 9-class;", SURE, 100, 81).rule(0, 0), 9);
        due("bar that is 1", one("learn 0;right 5;end 9-class;", SURE, 105, 10).rule(0, 0), 1);
        due("bar, all alike", one("learn 0;right 5;end 9;", SURE, 105, 10).rule(0, 0), 0);
        due("bar, all 0", one("learn 0;right 5;end 0;", SURE, 105, 10).rule(0, 0), 0);
        EDGES.sentence("BAR: the NUMBER (0 .. 9), none of 10");
        // nine of ten are sure by any bar, and class 2 costs: a bar of 10 would hold it
        due("bar of 9 tenths", one("learn 0;right 5;end 9-class;", SURE, 100, 91).rule(0, 0), 1);
        EDGES.sentence("BAR of a TIMED: by which WEEKS it moves");
        due("timed", one("learn 0;right 5;end 9*(class=1)+(class=0);", TIMED, 4, 1).rule(0, 0), 3);
        due("timed by 5", one("learn 0;right 5;end 9*(moved=1)*(2<week);", TIMED, 4, 1).rule(0, 0), 3);
        due("never is best", one("learn 0;right 5;end 9-class;", TIMED, 1, 1).rule(0, 0), 0);
        due("each week is best", one("learn 0;right 5;end class;", TIMED, 4, 1).rule(0, 0), 1);
        due("every other week is best", one("learn 0;right 5;end 9*(class=2);", TIMED, 4, 1).rule(0, 0), 2);
        due("at the fourth alone", one("learn 10*(week=4)*(class=1);right 5;end step+class*(class<2);", TIMED, 3, 1).rule(0, 0), 3);
    }

    private static void barOfOthers() {
        EDGES.sentence("BAR of a KIND whose NUMBER moves nothing: of like ones the least");
        for (int kind : new int[] {PUPIL, TWICE, BACK}) {
            due("kind " + kind, one("learn 4;right 5;end 9*class;", kind, 107, 12345).rule(0, 0), 0);
        }
        EDGES.sentence("BAR: of a CAREFUL");
        // one half is high enough in class 1: from 6 on it stays there, but none lies below it by twice
        due("stays from 6 on", one("learn 0;right 5;end 9*(class=1);", CAREFUL, 100, 11).rule(0, 0), 6);
        EDGES.sentence("BAR, A PLAIN RULE: by which it would; it does not");
        EDGES.onlyAsks(Edges::usual, "rule", y -> y.rule(3, 0) + y.rule(3, 1) + y.rule(5, 0) + y.rule(0, 1));
    }

    private static void plainRule() {
        EDGES.sentence("A PLAIN RULE: the KIND (with its NUMBER) by which it would; of like ones the least");
        due("all alike", one("learn 0;right 5;end 9;", CAREFUL, 105, 1).rule(0, 1), PUPIL);
        due("all 0", one("learn 0;right 5;end 0;", CAREFUL, 105, 1).rule(0, 1), PUPIL);
        due("each week, as a timed and a sure", one("learn 0;right 5;end class;", PUPIL, 1, 10000).rule(0, 1), TIMED);
        due("never, as a timed, a sure", one("learn 0;right 5;end 9*(moved=0);", PUPIL, 109, 1).rule(0, 1), TIMED);
        due("with NUMBER 0 a sure", one("learn 0;right 5;end class;", PUPIL, 0, 1).rule(0, 1), SURE);
        due("back", one("learn 0;right 0;end 9-class;", PUPIL, 400, 1).rule(0, 1), BACK);
        due("back by how sure", one("learn 0;right 10;end 9-class;", PUPIL, 409, 1).rule(0, 1), CAREFUL);
        due("up by marks", one("learn 0;right 10*step;end 9*(class=4*step);", CAREFUL, 9, 11).rule(0, 1), PUPIL);
        due("up by two running", one("learn 0;right 10;end 9*(class=2);", CAREFUL, 9, 1).rule(0, 1), TWICE);
    }
}
