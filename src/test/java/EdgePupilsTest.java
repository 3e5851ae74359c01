/** Edges of promises 1 to 4: what a new object is, and the bounds of what a pupil is made of. */
public final class EdgePupilsTest {
    private static final int BAD = Edges.BAD, FULL = Edges.FULL, NO_SUCH = Edges.NO_SUCH, NOTHING = Edges.NOTHING;
    private static final int MIN = Edges.MIN, MAX = Edges.MAX;
    private static final Edges EDGES = new Edges();

    public static void main(String[] args) {
        nothingAtFirst();
        eightPupils();
        kinds();
        classes();
        sortsAndNumbers();
        refusedPupils();
        weights();
        refusedWeights();
        told();
        EDGES.end("EdgePupilsTest");
    }

    private static void due(String call, long got, long want) {
        EDGES.due(call, got, want);
    }

    private static void nothingAtFirst() {
        EDGES.sentence("MovesUp(): No PUPILS");
        MovesUp x = new MovesUp();
        due("count(0)", x.count(0), 0);
        due("count(4)", x.count(4), 0);
        due("count(5)", x.count(5), 0);
        due("told(0, 0)", x.told(0, 0), NO_SUCH);
        due("weigh(0, 1)", x.weigh(0, 1), BAD);
        due("taken(0, 0)", x.taken(0, 0), NOTHING);
        due("image()", x.image(), 0);
        EDGES.sentence("There are 6 TEXTS at most, TEXT 0 with them: at first THE RULE");
        due("count(1)", x.count(1), 1);
        due("count(3)", x.count(3), 0);
        due("count(2)", x.count(2), 0);
        EDGES.sentence("SHEETS 0 .. 3 are rows of numbers, or missing (as all are at first)");
        for (int sheet = 0; sheet < 4; sheet++) {
            due("cell of sheet " + sheet, new MovesUp().cell(sheet, 0, 0), NOTHING);
        }
        EDGES.sentence("back(): STATE: there is none");
        due("back() of a new one", new MovesUp().back(), Edges.STATE);
        EDGES.sentence("A new object: nothing of another one is in it");
        Edges.full();
        due("count(0) beside a full one", new MovesUp().count(0), 0);
        due("says(0, 0, 2) beside one with another rule", new MovesUp().says(100, 0, 2), 10);
    }

    private static void eightPupils() {
        EDGES.sentence("PUPILS (8 at most, numbered from 0)");
        MovesUp x = new MovesUp();
        for (int i = 0; i < 8; i++) {
            due("pupil " + i, x.pupil(i % 6, 100 + i), i);
            due("count(0) behind pupil " + i, x.count(0), i + 1);
            due("told(" + i + ", 3)", x.told(i, 3), i);
            due("told of one more", x.told(i + 1, 0), NO_SUCH);
        }
        due("a ninth", x.pupil(0, 100), FULL);
        due("count(0)", x.count(0), 8);
        due("told(8, 0)", x.told(8, 0), NO_SUCH);
        due("told(7, 3)", x.told(7, 3), 7);
    }

    private static void kinds() {
        EDGES.sentence("have a KIND: 0 PUPIL .. 5 CAREFUL");
        MovesUp x = new MovesUp();
        for (int kind = 0; kind < 6; kind++) {
            due("pupil(" + kind + ", 0)", x.pupil(kind, 0), kind);
            due("told(" + kind + ", 0)", x.told(kind, 0), kind);
        }
        for (int kind : new int[] {-1, 6, 256, MIN, MAX}) {
            EDGES.refused(Edges::usual, "pupil(" + kind + ", 0)", BAD, y -> y.pupil(kind, 0));
        }
    }

    private static void classes() {
        EDGES.sentence("CLASSES 0 .. 4; rest: 100 times CLASS");
        MovesUp x = new MovesUp();
        int[] rests = {0, 39, 100, 400, 439};
        int[] want = {0, 0, 1, 4, 4};
        for (int i = 0; i < rests.length; i++) {
            due("pupil(0, " + rests[i] + ")", x.pupil(0, rests[i]), i);
            due("class of " + rests[i], x.told(i, 1), want[i]);
        }
        for (int rest : new int[] {500, 501, 539, 900, 1000, 10000, 10100, 65636, MAX}) {
            EDGES.refused(Edges::usual, "pupil(0, " + rest + ")", BAD, y -> y.pupil(0, rest));
        }
        EDGES.sentence("rest is not below 0");
        for (int rest : new int[] {-1, -9, -10, -100, -400, -65436, MIN, MIN + 100}) {
            EDGES.refused(Edges::usual, "pupil(0, " + rest + ")", BAD, y -> y.pupil(0, rest));
        }
    }

    private static void sortsAndNumbers() {
        EDGES.sentence("a SORT (0 .. 3)");
        MovesUp x = new MovesUp();
        due("pupil(0, 0)", x.pupil(0, 0), 0);
        due("pupil(0, 30)", x.pupil(0, 30), 1);
        due("pupil(0, 430)", x.pupil(0, 430), 2);
        due("sort of 0", x.told(0, 2), 0);
        due("sort of 30", x.told(1, 2), 3);
        due("sort of 430", x.told(2, 2), 3);
        for (int rest : new int[] {40, 49, 90, 99, 140, 199, 440, 499}) {
            EDGES.refused(Edges::usual, "pupil(0, " + rest + ")", BAD, y -> y.pupil(0, rest));
        }
        EDGES.sentence("a NUMBER (0 .. 9)");
        due("pupil(3, 9)", x.pupil(3, 9), 3);
        due("pupil(3, 10)", x.pupil(3, 10), 4);
        due("number of 9", x.told(3, 3), 9);
        due("number of 10", x.told(4, 3), 0);
        due("sort of 10", x.told(4, 2), 1);
    }

    private static void refusedPupils() {
        EDGES.sentence("pupil: BAD; FULL");
        EDGES.refused(Edges::full, "pupil(0, 0), all there", FULL, y -> y.pupil(0, 0));
        EDGES.refused(Edges::full, "pupil(5, 439), all there", FULL, y -> y.pupil(5, 439));
        EDGES.refused(Edges::full, "pupil(6, 0), all there", BAD, y -> y.pupil(6, 0));
        EDGES.refused(Edges::full, "pupil(-1, 0), all there", BAD, y -> y.pupil(-1, 0));
        EDGES.refused(Edges::full, "pupil(0, 40), all there", BAD, y -> y.pupil(0, 40));
        EDGES.refused(Edges::full, "pupil(0, 500), all there", BAD, y -> y.pupil(0, 500));
        EDGES.refused(Edges::full, "pupil(0, -1), all there", BAD, y -> y.pupil(0, -1));
        EDGES.refused(MovesUp::new, "pupil(6, 500)", BAD, y -> y.pupil(6, 500));
    }

    private static void weights() {
        EDGES.sentence("WEIGHTS: 1 of STEP 0 alone, at first");
        MovesUp x = new MovesUp();
        x.pupil(0, 400);
        for (int step = 0; step < 5; step++) {
            due("weight of step " + step, x.told(0, 4 + step), step == 0 ? 1 : 0);
        }
        EDGES.sentence("weigh: how much they were together");
        due("weigh(0, 99999), at first", x.weigh(0, 99999), 1);
        due("weigh(0, 90000)", x.weigh(0, 90000), 45);
        due("weigh(0, 1)", x.weigh(0, 1), 9);
        EDGES.sentence("digits, STEP 4's the highest; 0 .. 9 of each STEP");
        for (int step = 0, digit = 1; step < 5; step++, digit *= 10) {
            x.weigh(0, 9 * digit);
            for (int other = 0; other < 5; other++) {
                due("weight " + other + " of " + 9 * digit, x.told(0, 4 + other), other == step ? 9 : 0);
            }
        }
        EDGES.sentence("weigh: of more than digits, behind A TEST");
        x = Edges.ruled("learn 0;right 9-step*2;end 0;");
        x.pupil(2, 0);
        x.weigh(0, 57489);
        x.test(0, 307);
        due("told(0, 4)", x.told(0, 4), 6561);
        due("weigh(0, 10)", x.weigh(0, 10), 9999);
        due("weigh(0, 1)", x.weigh(0, 1), 1);
        EDGES.sentence("weigh: of one PUPIL alone");
        x.pupil(0, 0);
        due("weigh(1, 22222)", x.weigh(1, 22222), 1);
        due("told(0, 5)", x.told(0, 5), 0);
        due("told(0, 4)", x.told(0, 4), 1);
    }

    private static void refusedWeights() {
        EDGES.sentence("WEIGHTS (0 .. 9 of each STEP, some)");
        for (int digits : new int[] {0, -1, -11111, 100000, 100001, 111111, MAX, MIN}) {
            EDGES.refused(Edges::usual, "weigh(0, " + digits + ")", BAD, y -> y.weigh(0, digits));
        }
        EDGES.sentence("weigh: BAD: no such PUPIL");
        for (int pupil : new int[] {-1, 6, 7, 8, MAX, MIN}) {
            EDGES.refused(Edges::usual, "weigh(" + pupil + ", 1)", BAD, y -> y.weigh(pupil, 1));
            EDGES.refused(Edges::usual, "weigh(" + pupil + ", 0)", BAD, y -> y.weigh(pupil, 0));
        }
        EDGES.refused(Edges::full, "weigh(8, 1)", BAD, y -> y.weigh(8, 1));
        due("weigh(5, 1), the last", Edges.usual().weigh(5, 1), 11);
        due("weigh(7, 1), the last of eight", Edges.full().weigh(7, 1), 38);
    }

    private static void told() {
        EDGES.sentence("told: 0 KIND, 1 CLASS, 2 SORT, 3 NUMBER, 4 .. 8 WEIGHT of a STEP. -5: none such");
        for (int pupil : new int[] {-1, 6, 7, 8, MAX, MIN}) {
            for (int what : new int[] {0, 8, 9, -1}) {
                EDGES.refused(Edges::usual, "told(" + pupil + ", " + what + ")", NO_SUCH, y -> y.told(pupil, what));
            }
        }
        for (int what : new int[] {-1, 9, 12, MAX, MIN}) {
            EDGES.refused(Edges::usual, "told(0, " + what + ")", NO_SUCH, y -> y.told(0, what));
        }
        MovesUp x = new MovesUp();
        x.pupil(5, 439);
        x.weigh(0, 98765);
        int[] want = {5, 4, 3, 9, 5, 6, 7, 8, 9};
        for (int what = 0; what < want.length; what++) {
            due("told(0, " + what + ")", x.told(0, what), want[what]);
        }
    }
}
