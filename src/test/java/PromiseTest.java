/** The promises one by one: ordinary inputs, the edges that the document names, wrong inputs. */
public final class PromiseTest {
    private static final int BAD = -2, STATE = -3, FULL = -4, NONE = -1, NO_SUCH = -5;
    private static final long NO = -4611686018427387904L;
    private static final int[] FAR = {-1, Integer.MIN_VALUE, Integer.MAX_VALUE, 1000000};
    private static final Checks CHECKS = new Checks();

    private static void due(String call, long got, long want) {
        CHECKS.due(call, got, want);
    }

    private static void due(String call, long above, long below, long wantAbove, long wantBelow) {
        CHECKS.due(call, above, below, wantAbove, wantBelow);
    }

    public static void main(String[] args) {
        aNewObject();
        pupil();
        weigh();
        told();
        feed();
        text();
        faults();
        deep();
        sums();
        force();
        says();
        thought();
        moves();
        surely();
        likely();
        mean();
        meanByMoved();
        off();
        rule();
        room();
        roomsRefusals();
        summer();
        test();
        testsRefusals();
        cut();
        cutsRefusals();
        imageAndBack();
        count();
        sheet();
        cell();
        copy();
        pupils();
        pupilsRefusals();
        taken();
        CHECKS.end("PromiseTest");
    }

    // ---- ways to say it shorter

    private static int put(MovesUp x, String s) {
        int size = 0;
        for (int i = 0; i < s.length(); i++) {
            size = x.feed(1, s.charAt(i));
        }
        return size;
    }

    /** A new object with one text more, which is the rule. */
    private static MovesUp ruled(String s) {
        MovesUp x = new MovesUp();
        put(x, s);
        due("text() of " + s, x.text(), 1);
        x.force(1);
        return x;
    }

    private static void row(MovesUp x, int sheet, int sort, int... items) {
        x.sheet(sheet, sort, items.length);
        for (int i = 0; i < items.length; i++) {
            x.cell(sheet, i, items[i]);
        }
    }

    // ---- 1 .. 4

    private static void aNewObject() {
        MovesUp x = new MovesUp();
        int[] want = {0, 1, 0, 0, 0, 0};
        for (int what = 0; what < want.length; what++) {
            due("count(" + what + ") of a new one", x.count(what), want[what]);
        }
        due("told(0, 0) of a new one", x.told(0, 0), NO_SUCH);
        due("NONE", MovesUp.NONE, -1);
        due("BAD", MovesUp.BAD, -2);
        due("STATE", MovesUp.STATE, -3);
        due("FULL", MovesUp.FULL, -4);
        due("NO", MovesUp.NO, NO);
    }

    private static void pupil() {
        MovesUp x = new MovesUp();
        due("pupil(0, 0)", x.pupil(0, 0), 0);
        due("pupil(5, 439)", x.pupil(5, 439), 1);
        for (int kind : new int[] {-1, 6, Integer.MAX_VALUE, Integer.MIN_VALUE}) {
            due("pupil kind " + kind, x.pupil(kind, 0), BAD);
        }
        for (int rest : new int[] {-1, -100, 40, 99, 140, 440, 500, 1000, Integer.MAX_VALUE, Integer.MIN_VALUE}) {
            due("pupil rest " + rest, x.pupil(0, rest), BAD);
        }
        for (int i = 2; i < 8; i++) {
            due("pupil " + i, x.pupil(i - 2, 100), i);
        }
        due("a ninth pupil", x.pupil(0, 0), FULL);
        due("a bad ninth pupil", x.pupil(0, 40), BAD);
        due("count(0)", x.count(0), 8);
    }

    private static void weigh() {
        MovesUp x = new MovesUp();
        x.pupil(0, 0);
        due("weigh(0, 98765)", x.weigh(0, 98765), 1);
        for (int s = 0; s < 5; s++) {
            due("weight " + s, x.told(0, 4 + s), 5 + s);
        }
        due("weigh(0, 10000)", x.weigh(0, 10000), 35);
        due("weight 4 alone", x.told(0, 8), 1);
        due("weigh(0, 1)", x.weigh(0, 1), 1);
        due("weight 0 alone", x.told(0, 4), 1);
        x.weigh(0, 10000);
        due("weight 0 then", x.told(0, 4), 0);
        due("weigh(0, 99999)", x.weigh(0, 99999), 1);
        for (int digits : new int[] {0, -1, 100000, Integer.MIN_VALUE, Integer.MAX_VALUE}) {
            due("weigh digits " + digits, x.weigh(0, digits), BAD);
        }
        due("weigh(1, 1)", x.weigh(1, 1), BAD);
        due("weigh(-1, 1)", x.weigh(-1, 1), BAD);
        due("what is refused changes nothing", x.count(4), 45);
    }

    private static void told() {
        MovesUp x = new MovesUp();
        x.pupil(4, 327);
        int[] want = {4, 3, 2, 7, 1, 0, 0, 0, 0};
        for (int what = 0; what < want.length; what++) {
            due("told(0, " + what + ")", x.told(0, what), want[what]);
        }
        for (int far : new int[] {-1, 9, Integer.MAX_VALUE, Integer.MIN_VALUE}) {
            due("told(0, " + far + ")", x.told(0, far), NO_SUCH);
        }
        for (int far : new int[] {-1, 1, 8, Integer.MAX_VALUE, Integer.MIN_VALUE}) {
            due("told(" + far + ", 0)", x.told(far, 0), NO_SUCH);
        }
    }

    // ---- 5 .. 8

    private static void feed() {
        MovesUp x = new MovesUp();
        due("feed(0, 1)", x.feed(0, 1), BAD);
        due("feed(9, 1)", x.feed(9, 1), BAD);
        due("feed(-1, 1)", x.feed(-1, 1), BAD);
        for (int i = 1; i < 20; i++) {
            due("feed(8, blanks)", x.feed(8, 0x2020202020202020L), 8 * i);
        }
        due("feed(7, blanks)", x.feed(7, 0x2020202020202020L), 159);
        due("feed(2, blanks)", x.feed(2, 0x2020L), FULL);
        due("feed(9, blanks)", x.feed(9, 0x2020L), BAD);
        due("feed(1, blanks)", x.feed(1, 0x2020L), 160);
        due("feed(1, blanks) more", x.feed(1, 0x20L), FULL);
        due("count(2)", x.count(2), 160);
        due("text() of blanks", x.text(), -100 - 160);
        // the lowest byte first, and no more than n of them
        x.feed(8, 0x31206e7261656cL | 0x3bL << 56);
        x.feed(8, 0x3b31207468676972L);
        due("feed(6, end 7;)", x.feed(6, 0x7fff3b3720646e65L), 22);
        due("text()", x.text(), 1);
        x.force(1);
        due("says(0, 0, 2)", x.says(0, 0, 2), 7);
    }

    private static void text() {
        MovesUp x = new MovesUp();
        for (int i = 1; i < 6; i++) {
            put(x, "learn 1;right 1;end " + i + ";");
            due("text " + i, x.text(), i);
            due("the tape then", x.count(2), 0);
        }
        put(x, "learn 1;");
        due("a seventh text", x.text(), FULL);
        due("the tape stays", x.count(2), 8);
        due("count(1)", x.count(1), 6);
        x = new MovesUp();
        put(x, "learn 1;");
        due("text() that ends too early", x.text(), -108);
        due("the tape behind a fault", x.count(2), 0);
        due("count(1) behind a fault", x.count(1), 1);
        due("text() of no tape", x.text(), -100);
        put(x, " \n\nlearn\n5;right 1 ; end 3;  ");
        due("text() behind faults", x.text(), 1);
        x.force(1);
        due("its end", x.says(0, 0, 2), 3);
        put(x, "learn5;right1-step;end(9999-9998)*3;");
        due("tokens without blanks", x.text(), 2);
        x.force(2);
        due("its learn", x.says(0, 0, 0), 5);
        due("its right", x.says(100, 0, 1), 0);
        due("its end", x.says(0, 0, 2), 3);
    }

    /** A text with an @ ahead of the byte where its fault is; without one it has none. */
    private static void fault(String marked) {
        MovesUp x = new MovesUp();
        int place = marked.indexOf('@');
        put(x, marked.replace("@", ""));
        due("text() of " + marked, x.text(), place < 0 ? 1 : -100 - place);
    }

    private static void faults() {
        String rest = ";right 1;end 1;";
        String[] all = {"@", "  @", "learn@", "learn 1@", "learn 1;@", "learn 1;right 1;end 1@",
            "learn 1;right 1;end 1 \n @", "learn 1;right 1;end 1;@;", "learn 1;right 1;end 1; @x",
            "learn 1;right 1;end 1;@\t", "learn 1;right 1;@learn 1;", "@right 1;", "@1", "@Learn 1;", "@learnstep;",
            "learn @x" + rest, "learn @end" + rest, "learn @12345" + rest, "learn 1234" + rest, "learn 0000" + rest,
            "learn @00001" + rest, "learn 1@\t" + rest, "learn 1@\r" + rest, "learn 1@\u0000" + rest,
            "learn 1@\u00e9" + rest, "learn 1@!" + rest, "learn 1 @2" + rest, "learn @;", "learn step @class" + rest,
            "learn 1<2@<3" + rest, "learn 1=2@=3" + rest, "learn (1<2)=3" + rest, "learn 1+@not 2" + rest,
            "learn 1<@not 2" + rest, "learn -@not 2" + rest, "learn 1 or @or 2" + rest, "learn 1 and@;",
            "learn 1+@+2" + rest, "learn 1*@*2" + rest, "learn 1*-2--3" + rest, "learn (1@;", "learn (1@",
            "learn 1@)" + rest, "learn (@)" + rest, "learn @stepclass" + rest, "learn 1 @left" + rest,
            "learn left" + rest, "learn @moves" + rest, "learn @mov" + rest, "learn @stepz" + rest,
            "learn @astep" + rest, "learn 1;right 1;end @zstep", "learn moved@1" + rest, "learn 1 @12345" + rest};
        for (String marked : all) {
            fault(marked);
        }
    }

    /** Five may be open; what has ended is open no more. */
    private static void deep() {
        String rest = ";right 1;end 1;";
        String[] all = {"learn -----1" + rest, "learn -----@-1" + rest, "learn (((((1)))))" + rest,
            "learn (((((@(1))))))" + rest, "learn not not not not not 1" + rest,
            "learn not not not not not @not 1" + rest, "learn not (-(not 1))" + rest,
            "learn not (-(not @-1))" + rest, "learn not (-(not @(1)))" + rest, "learn not (-(not @not 1))" + rest,
            "learn not (-(not 1-1))" + rest,
            "learn (1)+(1)+(1)+(1)+(1)+(1)+(1)" + rest,
            "learn not 1 and not 1 or not 1 and not 1 or not 1 and not 1" + rest, "learn 1-1-1-1-1-1-1-1" + rest,
            "learn -1*-1*-1*-1*-1*-1" + rest, "learn (((((1)+1)+1)+1)+(1))+(((((1)))))" + rest,
            "learn ((((-1-1))))" + rest, "learn ((((-@(1)))))" + rest, "learn ((((-1-(1)))))" + rest,
            "learn ((((-1-(@-1)))))" + rest, "learn -1;right -----1;end (((((1)))));"};
        for (String marked : all) {
            fault(marked);
        }
    }

    private static void sums() {
        Object[][] all = {{"7", 7}, {"10-3-2", 5}, {"2+3*4", 14}, {"(2+3)*4", 20}, {"-2+5", 3}, {"-2*-3", 6}, {"--5", 5},
            {"5 or 0", 1}, {"0 or 0", 0}, {"-1 or 0", 1}, {"2 and 3", 1}, {"2 and 0", 0}, {"0 and 2", 0}, {"not 7", 0},
            {"not 0", 1}, {"not not 7", 1}, {"not 1<2", 0}, {"2 or 0 and 0", 1}, {"0 and 0 or 3", 1}, {"3=3", 1}, {"3=4", 0},
            {"2<3", 1}, {"3<3", 0}, {"4<3", 0}, {"-1<0", 1}, {"1+1=2", 1}, {"2*(3=3)+1", 3}, {"1<2 and 2<1", 0},
            {"99", 99}, {"100", 99}, {"0-1", 0}, {"9999", 99}, {"not 0 and not 0", 1}, {"(1 or 0)+(1 and 1)", 2},
            {"9999*9999*9999<0", 9999 * 9999 * 9999 < 0 ? 1 : 0},
            {"9999*9999*9999*9999=9999*9999*9999*9999", 1}, {"5000*5000*100<0", 5000 * 5000 * 100 < 0 ? 1 : 0}};
        for (Object[] one : all) {
            MovesUp x = ruled("learn 0;right 0;end " + one[0] + ";");
            due("end " + one[0], x.says(0, 0, 2), (Integer) one[1]);
        }
        String[] names = {"step", "class", "week", "sort", "moved", "left"};
        int[] want = {2, 3, 1, 2, 5, 3};
        for (int i = 0; i < names.length; i++) {
            due(names[i], ruled("learn 0;right 0;end " + names[i] + ";").says(231, 25, 2), want[i]);
        }
        int[] left = {4, 3, 2, 1, 0, 0};
        MovesUp x = ruled("learn 0;right left;end 50+left;");
        for (int w = 0; w < left.length; w++) {
            due("left of week " + w, x.says(w, 0, 2), 50 + left[w]);
            due("right by left of week " + w, x.says(w, 0, 1), left[w]);
        }
    }

    private static void force() {
        MovesUp x = ruled("learn 1;right 2;end 3;");
        due("force(1) again", x.force(1), 1);
        due("count(3)", x.count(3), 1);
        due("force(0)", x.force(0), 1);
        due("count(3)", x.count(3), 0);
        due("says of the first", x.says(0, 0, 1), 8);
        due("force(1)", x.force(1), 0);
        due("says of the other", x.says(0, 0, 1), 2);
        for (int text : new int[] {-1, 2, 6, Integer.MAX_VALUE, Integer.MIN_VALUE}) {
            due("force(" + text + ")", x.force(text), BAD);
        }
        due("count(3) behind refusals", x.count(3), 1);
    }

    private static void says() {
        MovesUp x = new MovesUp();
        for (int step = 0; step < 5; step++) {
            for (int cls = 0; cls < 5; cls++) {
                int where = 100 * step + 10 * cls;
                int learn = Math.max(0, 5 - 2 * (cls - step) * (cls - step));
                due("learn at " + where, x.says(where, 0, 0), step == 4 ? 0 : learn);
                due("right at " + where, x.says(where, 35, 1), Math.max(0, Math.min(10, 8 - 2 * cls + 2 * step)));
                due("end at " + where, x.says(where + 5, 3, 2), 10 * step);
            }
        }
        for (int where : new int[] {-1, 6, 9, 50, 90, 500, 445 + 1, 1000, Integer.MAX_VALUE, Integer.MIN_VALUE}) {
            due("says where " + where, x.says(where, 0, 0), BAD);
        }
        for (int who : new int[] {-1, 6, 9, 36, 40, 100, Integer.MAX_VALUE, Integer.MIN_VALUE}) {
            due("says who " + who, x.says(0, who, 0), BAD);
        }
        for (int key : new int[] {-1, 3, Integer.MAX_VALUE, Integer.MIN_VALUE}) {
            due("says key " + key, x.says(0, 0, key), BAD);
        }
        x = ruled("learn 20;right 11;end 100;");
        due("learn held", x.says(345, 35, 0), 10);
        due("learn on the highest step", x.says(445, 35, 0), 0);
        due("right held", x.says(445, 35, 1), 10);
        due("end held", x.says(445, 35, 2), 99);
        x = ruled("learn 0-1;right 0-1;end 0-1;");
        for (int key = 0; key < 3; key++) {
            due("held from below " + key, x.says(0, 0, key), 0);
        }
        x = ruled("learn sort;right sort*2+moved;end sort*10+week;");
        due("a sort", x.says(3, 12, 1), 4);
        due("another sort", x.says(3, 32, 1), 8);
        due("the sort before again", x.says(3, 12, 1), 4);
        due("end in its week", x.says(3, 12, 2), 13);
    }

    // ---- 9 .. 11

    private static void thought() {
        MovesUp x = new MovesUp();
        x.pupil(0, 0);
        due("ahead of all", x.thought(0, 0, 0, 0), x.thought(0, 0, 0, 1), 1, 1);
        due("no weight", x.thought(0, 0, 3, 0), x.thought(0, 0, 3, 1), 0, 1);
        due("right once", x.thought(0, 101, 0, 0), x.thought(0, 101, 0, 1), 4, 9);
        due("right once, higher", x.thought(0, 101, 1, 0), x.thought(0, 101, 1, 1), 5, 9);
        due("wrong once", x.thought(0, 100, 0, 0), x.thought(0, 100, 0, 1), 1, 1);
        // class 1 then: 40 50 learn 3 and 5 tenths: 280, 120 + 250, 250; right 6, 8, 10: 1680, 2960, 2500
        due("right twice", x.thought(0, 203, 1, 0), x.thought(0, 203, 1, 1), 148, 357);
        due("right, wrong", x.thought(0, 201, 1, 0), x.thought(0, 201, 1, 1), 37, 93);
        x.weigh(0, 42);
        due("in lowest terms", x.thought(0, 0, 0, 0), x.thought(0, 0, 0, 1), 1, 3);
        for (int bad : new int[] {-1, 1, 2, 102, 204, 308, 416, 532, 600, 199, -100, Integer.MIN_VALUE, Integer.MAX_VALUE}) {
            due("thought marks " + bad, x.thought(0, bad, 0, 0), NO);
        }
        for (int far : FAR) {
            due("thought of " + far, x.thought(far, 0, 0, 0), NO);
            due("thought of step " + far, x.thought(0, 0, far, 0), NO);
            due("thought of part " + far, x.thought(0, 0, 0, far), NO);
        }
        due("thought of none", x.thought(1, 0, 0, 0), NO);
        due("thought of step 5", x.thought(0, 0, 5, 0), NO);
        due("thought of part 2", x.thought(0, 0, 0, 2), NO);
        x = ruled("learn 0;right 10;end 0;");
        x.pupil(0, 0);
        due("all are 0", x.thought(0, 100, 0, 0), x.thought(0, 100, 0, 1), 0, 1);
        x = ruled("learn 10;right 10;end 0;");
        x.pupil(0, 0);
        due("a step each week", x.thought(0, 307, 3, 0), x.thought(0, 307, 3, 1), 1, 1);
        due("and no further than the highest", x.thought(0, 531, 4, 0), x.thought(0, 531, 4, 1), 1, 1);
        // right by the step behind the week
        x = ruled("learn 10;right step*3;end 0;");
        x.pupil(0, 0);
        due("right by the step behind", x.likely(0, 101, 0), x.likely(0, 101, 1), 3, 10);
    }

    private static void way(MovesUp x, int pupil, int marks, int cls, int moved, int wish) {
        String call = "moves(" + pupil + ", " + marks + ", ";
        due(call + "0)", x.moves(pupil, marks, 0), cls);
        due(call + "1)", x.moves(pupil, marks, 1), moved);
        due(call + "2)", x.moves(pupil, marks, 2), wish);
    }

    private static void moves() {
        MovesUp x = ruled("learn 0;right 5;end 0;");
        x.pupil(0, 100);
        x.pupil(1, 0);
        x.pupil(1, 400);
        x.pupil(2, 2);
        x.pupil(2, 3);
        x.pupil(2, 0);
        x.pupil(4, 300);
        x.pupil(4, 400);
        way(x, 0, 0, 1, 0, 0);
        way(x, 0, 100, 1, 0, 0);
        way(x, 0, 101, 2, 1, 1);
        way(x, 0, 506, 3, 2, 0);
        way(x, 0, 514, 4, 3, 0);
        way(x, 0, 531, 4, 3, 1);
        way(x, 1, 101, 0, 0, 0);
        way(x, 1, 203, 1, 1, 1);
        way(x, 1, 202, 0, 0, 0);
        way(x, 1, 307, 1, 1, 0);
        way(x, 1, 415, 2, 2, 1);
        way(x, 1, 531, 2, 2, 0);
        way(x, 1, 427 - 100, NO_SUCH, NO_SUCH, NO_SUCH);
        way(x, 1, 500 + 27, 2, 2, 1);
        // held on the highest it does not MOVE, and so would go up again
        way(x, 2, 203, 4, 0, 1);
        way(x, 2, 307, 4, 0, 1);
        way(x, 3, 100, 0, 0, 0);
        way(x, 3, 200, 1, 1, 1);
        way(x, 3, 307, 1, 1, 0);
        way(x, 3, 500, 2, 2, 0);
        way(x, 4, 200, 0, 0, 0);
        way(x, 4, 300, 1, 1, 1);
        way(x, 4, 500, 1, 1, 0);
        way(x, 5, 531, 0, 0, 0);
        way(x, 6, 100, 3, 0, 0);
        way(x, 6, 200, 2, 1, -1);
        way(x, 6, 300, 1, 2, -1);
        way(x, 6, 500, 0, 3, -1);
        way(x, 6, 203, 4, 1, 1);
        way(x, 6, 301, 2, 1, -1);
        way(x, 6, 510, 3, 0, 0);
        way(x, 7, 531, 4, 0, 1);
        way(x, 7, 412, 4, 2, 1);
        movesRefusals(x);
    }

    private static void movesRefusals(MovesUp x) {
        for (int bad : new int[] {-1, 1, 102, 204, 308, 416, 532, 600, Integer.MIN_VALUE, Integer.MAX_VALUE}) {
            due("moves marks " + bad, x.moves(0, bad, 0), NO_SUCH);
        }
        for (int far : FAR) {
            due("moves of " + far, x.moves(far, 0, 0), NO_SUCH);
            due("moves what " + far, x.moves(0, 0, far), NO_SUCH);
        }
        due("moves of none", x.moves(8, 0, 0), NO_SUCH);
        due("moves what 3", x.moves(0, 0, 3), NO_SUCH);
    }

    private static void surely() {
        MovesUp x = ruled("learn 0;right 10*(step<4);end 0;");
        int[] rests = {206, 207, 200, 308, 309, 409, 400};
        for (int i = 0; i < rests.length; i++) {
            x.pupil(i < 3 ? 3 : 5, rests[i]);
            x.weigh(i, 1111);
        }
        // after right weeks four steps are alike: high enough are 2 quarters in class 2, 1 in class 3
        way(x, 0, 101, 2, 0, 0);
        way(x, 2, 101, 3, 1, 1);
        way(x, 2, 203, 4, 2, 1);
        way(x, 2, 307, 4, 2, 1);
        // all are 0 behind a wrong week
        way(x, 2, 100, 2, 0, 0);
        way(x, 6, 100, 4, 0, 0);
        way(x, 5, 100, 4, 0, 0);
        way(x, 3, 101, 2, 1, -1);
        way(x, 3, 203, 2, 1, 0);
        way(x, 5, 101, 3, 1, -1);
        way(x, 5, 203, 2, 2, -1);
        way(x, 5, 307, 2, 2, 0);
        way(x, 6, 307, 4, 0, 1);
        x = ruled("learn 0;right 5;end 0;");
        int[] others = {206, 207, 304, 305, 308, 309};
        for (int i = 0; i < others.length; i++) {
            x.pupil(i < 4 ? 3 : 5, others[i]);
            x.weigh(i, 11111);
        }
        // five alike: class 2 is 6 tenths, class 3 is 4 tenths
        way(x, 0, 100, 3, 1, 1);
        way(x, 1, 100, 2, 0, 0);
        way(x, 2, 100, 4, 1, 1);
        way(x, 3, 100, 3, 0, 0);
        // twice 4 tenths lie not below 8, but below 9
        way(x, 4, 100, 3, 0, 0);
        way(x, 5, 100, 2, 1, -1);
    }

    private static void likely() {
        MovesUp x = new MovesUp();
        x.pupil(0, 0);
        due("likely nothing", x.likely(0, 0, 0), x.likely(0, 0, 1), 1, 1);
        due("likely right", x.likely(0, 101, 0), x.likely(0, 101, 1), 9, 10);
        due("likely wrong", x.likely(0, 100, 0), x.likely(0, 100, 1), 1, 10);
        due("likely right twice", x.likely(0, 203, 0), x.likely(0, 203, 1), 357, 500);
        due("likely high enough at first", x.likely(0, 0, 2), x.likely(0, 0, 3), 1, 1);
        due("likely high enough", x.likely(0, 101, 2), x.likely(0, 101, 3), 5, 9);
        due("likely high enough then", x.likely(0, 203, 2), x.likely(0, 203, 3), 125, 357);
        x.pupil(0, 200);
        x.weigh(1, 12340);
        due("likely high enough in class 2", x.likely(1, 0, 2), x.likely(1, 0, 3), 3, 5);
        due("likely nothing, of more weights", x.likely(1, 0, 0), x.likely(1, 0, 1), 1, 1);
        long above = 0;
        for (int bits = 0; bits < 32; bits++) {
            above += x.likely(1, 500 + bits, 0) * (100000000000L / x.likely(1, 500 + bits, 1));
        }
        due("all marks together", above, 100000000000L);
        x = ruled("learn 0;right 10;end 0;");
        x.pupil(0, 0);
        due("likely never", x.likely(0, 100, 0), x.likely(0, 100, 1), 0, 1);
        due("high enough never", x.likely(0, 100, 2), x.likely(0, 100, 3), 0, 1);
        for (int far : FAR) {
            due("likely of " + far, x.likely(far, 0, 0), NO);
            due("likely marks " + far, x.likely(0, far, 0), NO);
            due("likely what " + far, x.likely(0, 0, far), NO);
        }
        due("likely of none", x.likely(1, 0, 0), NO);
        due("likely what 4", x.likely(0, 0, 4), NO);
        due("likely marks 102", x.likely(0, 102, 0), NO);
    }

    // ---- 12 .. 14

    private static void mean() {
        // all 32 marks alike; k right: class k, but 4 at most: (0 + 5 + 20 + 30 + 20 + 4) 11 by 32
        MovesUp x = ruled("learn 0;right 5;end class*10+moved;");
        x.pupil(0, 0);
        due("mean", x.mean(0, 0), x.mean(0, 1), 869, 32);
        due("rights", x.mean(0, 2), x.mean(0, 3), 5, 2);
        due("best", x.mean(0, 4), x.mean(0, 5), 44, 1);
        due("loses", x.mean(0, 6), x.mean(0, 7), 539, 32);
        x.weigh(0, 55555);
        due("mean of other weights", x.mean(0, 0), x.mean(0, 1), 869, 32);
        x.pupil(2, 1);
        due("loses nothing", x.mean(1, 6), x.mean(1, 7), 0, 1);
        for (int far : FAR) {
            due("mean of " + far, x.mean(far, 0), NO);
            due("mean what " + far, x.mean(0, far), NO);
        }
        due("mean of none", x.mean(2, 0), NO);
        due("mean what 8", x.mean(0, 8), NO);
        // it pays to know the marks: right tells the step, and the end pays for class = step alone
        x = ruled("learn 0;right step*10;end (class=step*2)*60;");
        x.pupil(5, 109);
        x.weigh(0, 11);
        due("best, by marks", x.mean(0, 4), x.mean(0, 5), 60, 1);
        due("mean, by a careful", x.mean(0, 0), x.mean(0, 1), 60, 1);
        x.pupil(0, 109);
        x.weigh(1, 11);
        due("mean, by one that goes on", x.mean(1, 0), x.mean(1, 1), 0, 1);
        due("what that loses", x.mean(1, 6), x.mean(1, 7), 60, 1);
        x = ruled("learn 0;right 0;end 0;");
        x.pupil(0, 0);
        due("mean of nothing", x.mean(0, 0), x.mean(0, 1), 0, 1);
        due("rights of nothing", x.mean(0, 2), x.mean(0, 3), 0, 1);
        x = ruled("learn 0;right 10;end 99;");
        x.pupil(0, 0);
        x.weigh(0, 99999);
        due("the greatest mean", x.mean(0, 0), x.mean(0, 1), 99, 1);
        due("all right", x.mean(0, 2), x.mean(0, 3), 5, 1);
        x = ruled("learn 10;right 5;end step*10+week;");
        x.pupil(0, 0);
        due("the end is in week 5", x.mean(0, 0), x.mean(0, 1), 45, 1);
        x = ruled("learn 10;right 5;end step*10+left;");
        x.pupil(0, 0);
        due("with none left", x.mean(0, 0), x.mean(0, 1), 40, 1);
    }

    private static void meanByMoved() {
        // going up and back pays here, as each changes the class
        MovesUp x = ruled("learn 0;right 5;end moved*10+(class=1);");
        x.pupil(2, 1);
        due("up each week", x.mean(0, 0), x.mean(0, 1), 40, 1);
        due("up and back", x.mean(0, 4), x.mean(0, 5), 51, 1);
        due("what that loses", x.mean(0, 6), x.mean(0, 7), 11, 1);
        // a held move is none
        x = ruled("learn 0;right 5;end 50-moved*10+class;");
        x.pupil(2, 401);
        due("held", x.mean(0, 0), x.mean(0, 1), 54, 1);
        due("held is best", x.mean(0, 4), x.mean(0, 5), 54, 1);
        // only the highest class at a late week teaches
        x = ruled("learn 10*(week=4)*(class=2);right 5;end step*10;");
        x.pupil(0, 0);
        due("class ahead of the week teaches", x.mean(0, 4), x.mean(0, 5), 10, 1);
        // k right of the first four weeks: two of them, 6 of 16
        due("by marks", x.mean(0, 0), x.mean(0, 1), 15, 4);
        x = ruled("learn 10*(week=1)*(class=0 or class=4);right 5;end step*10;");
        x.pupil(0, 200);
        due("by one class a week", x.mean(0, 4), x.mean(0, 5), 0, 1);
        x = ruled("learn sort*5;right 5;end step*10;");
        x.pupil(0, 0);
        x.pupil(0, 20);
        due("of sort 0", x.mean(0, 0), x.mean(0, 1), 0, 1);
        due("of sort 2", x.mean(1, 0), x.mean(1, 1), 40, 1);
        due("of sort 0 again", x.mean(0, 0), x.mean(0, 1), 0, 1);
        x.force(0);
        due("by the first rule", x.mean(0, 4), x.mean(0, 5), 1310477, x.mean(0, 5));
    }

    private static void off() {
        MovesUp x = ruled("learn 0;right 5;end class*10+moved;");
        x.pupil(0, 0);
        x.pupil(0, 100);
        x.pupil(0, 400);
        // from class 1: (10 + 5 * 21 + 10 * 32 + 16 * 43) by 32
        due("mean from class 1", x.mean(1, 0), x.mean(1, 1), 1123, 32);
        due("too high", x.off(0, 1, 0), x.off(0, 1, 1), -127, 16);
        due("too low", x.off(1, -1, 0), x.off(1, -1, 1), 127, 16);
        due("none below", x.off(0, -1, 0), x.off(0, -1, 1), 0, 1);
        due("none above", x.off(2, 1, 0), x.off(2, 1, 1), 0, 1);
        due("the class stays", x.told(0, 1), 0);
        for (int by : new int[] {0, 2, -2, Integer.MAX_VALUE, Integer.MIN_VALUE}) {
            due("off by " + by, x.off(0, by, 0), NO);
        }
        for (int far : FAR) {
            due("off of " + far, x.off(far, 1, 0), NO);
            due("off part " + far, x.off(0, 1, far), NO);
        }
        due("off of none", x.off(3, 1, 0), NO);
        due("off part 2", x.off(0, 1, 2), NO);
    }

    private static void rule() {
        MovesUp x = ruled("learn 0;right 5;end class*10;");
        x.pupil(0, 0);
        x.pupil(2, 9);
        x.pupil(3, 5);
        x.weigh(2, 1);
        due("bar of one that has none", x.rule(0, 0), 0);
        due("bar of a timed", x.rule(1, 0), 1);
        due("bar of a sure", x.rule(2, 0), 0);
        // with number 0 a sure goes up each week, with 5 only while it is surely high enough
        due("plain rule with number 0", x.rule(0, 1), 3);
        due("plain rule with number 5", x.rule(2, 1), 0);
        due("the number stays", x.told(2, 3), 5);
        due("the kind stays", x.told(2, 0), 3);
        x = ruled("learn 0;right 5;end 40-class*10;");
        x.pupil(2, 1);
        x.pupil(0, 409);
        due("bar, by which it never moves", x.rule(0, 0), 0);
        due("a plain rule that seldom goes up", x.rule(0, 1), 4);
        due("a plain rule that goes back", x.rule(1, 1), 5);
        x = ruled("learn 0;right 5;end 7;");
        x.pupil(5, 5);
        due("of like ones the least bar", x.rule(0, 0), 0);
        due("of like ones the least kind", x.rule(0, 1), 0);
        x = ruled("learn 0;right 5;end 10+(class=1)*50;");
        x.pupil(3, 3);
        x.weigh(0, 2001);
        // 2 thirds stand on step 3: up to 6 it goes on, from 7 on it stops in class 1
        due("bar that holds it", x.rule(0, 0), 7);
        for (int far : FAR) {
            due("rule of " + far, x.rule(far, 0), BAD);
            due("rule what " + far, x.rule(0, far), BAD);
        }
        due("rule of none", x.rule(1, 0), BAD);
        due("rule what 2", x.rule(0, 2), BAD);
    }

    // ---- 15 .. 18

    private static void room() {
        MovesUp x = ruled("learn 0;right 5;end 0;");
        int[] weights = {11, 12, 21, 1, 10};
        for (int i = 0; i < weights.length; i++) {
            x.pupil(2, i == 3 ? 100 : 101);
            x.weigh(i, weights[i]);
        }
        // high enough (class 1): 1 of 2, 1 of 3, 2 of 3, none, all
        row(x, 0, 1, 0, 0, 0, 0, 0);
        due("one", x.room(31, 1, 0), 16);
        due("two", x.room(31, 2, 0), 20);
        due("three", x.room(31, 3, 0), 21);
        due("four", x.room(31, 4, 0), 23);
        due("all", x.room(31, 5, 0), 31);
        due("no more than there are", x.room(31, 8, 0), 31);
        due("of some", x.room(11, 1, 0), 1);
        due("of some, more", x.room(10, 8, 0), 10);
        due("of one that is never high enough", x.room(8, 1, 0), 8);
        due("none", x.room(31, 0, 0), 0);
        due("of none", x.room(0, 8, 0), 0);
        // behind a week they are in class 2, where all but the fourth are never high enough: it stays in 1
        row(x, 1, 2, 101, 100, 100, 100, 0);
        due("of like ones the least", x.room(15, 1, 1), 1);
        due("of like ones the two least", x.room(15, 2, 1), 3);
        due("with one that is ahead of all", x.room(31, 1, 1), 16);
        x = ruled("learn 0;right step;end 0;");
        x.pupil(0, 100);
        x.pupil(0, 100);
        x.weigh(0, 77739);
        x.weigh(1, 77739);
        row(x, 0, 0, 100, 100);
        due("alike", x.room(3, 1, 0), 1);
        due("room of no pupils", roomOfNone(), 0);
        x = ruled("learn 0;right 10*(step=0);end 0;");
        x.pupil(2, 100);
        x.pupil(2, 100);
        x.weigh(1, 19);
        row(x, 0, 0, 100, 0);
        due("one by marks that can't be", x.room(3, 1, 0), 2);
        due("both", x.room(3, 2, 0), 3);
        row(x, 0, 0, 100, 101);
        due("of like ones the least, by marks that can't be", x.room(3, 1, 0), 1);
        tenthousandths();
    }

    private static int roomOfNone() {
        MovesUp x = new MovesUp();
        x.sheet(0, 2, 0);
        return x.room(0, 1, 0);
    }

    /** The second is likelier, but by less than a tenthousandth. */
    private static void tenthousandths() {
        MovesUp x = ruled("learn 0;right 2+step;end 0;");
        x.pupil(2, 100);
        x.pupil(2, 100);
        // 127 of 143 and 143 of 161 behind a right week
        x.weigh(0, 59788);
        x.weigh(1, 99849);
        row(x, 0, 1, 101, 101);
        long one = x.likely(0, 101, 2) * x.likely(1, 101, 3);
        long other = x.likely(1, 101, 2) * x.likely(0, 101, 3);
        due("the second is likelier", Long.signum(other - one), 1);
        due("but not by a tenthousandth", x.room(3, 1, 0), 1);
    }

    private static void roomsRefusals() {
        MovesUp x = new MovesUp();
        x.pupil(0, 0);
        x.pupil(0, 0);
        due("room of a missing sheet", x.room(3, 1, 0), -11);
        row(x, 0, 1, 0, 531);
        for (int bits : new int[] {-1, 4, 8, 255, Integer.MAX_VALUE, Integer.MIN_VALUE}) {
            due("room of " + bits, x.room(bits, 1, 0), BAD);
            due("room of " + bits + ", missing", x.room(bits, 1, 1), BAD);
        }
        for (int many : new int[] {-1, 9, Integer.MAX_VALUE, Integer.MIN_VALUE}) {
            due("room for " + many, x.room(3, many, 1), BAD);
        }
        for (int sheet : new int[] {-1, 4, Integer.MAX_VALUE, Integer.MIN_VALUE}) {
            due("room by sheet " + sheet, x.room(3, 1, sheet), BAD);
        }
        row(x, 0, 1, 0);
        due("a row too short", x.room(1, 1, 0), BAD);
        row(x, 0, 1, 0, 0, 0);
        due("a row too long", x.room(3, 1, 0), BAD);
        for (int marks : new int[] {-1, 1, 102, 532, 600}) {
            row(x, 0, 1, 0, marks);
            due("room by marks " + marks, x.room(3, 1, 0), BAD);
            due("room of others by marks " + marks, x.room(1, 1, 0), BAD);
        }
    }

    private static void weights(String call, MovesUp x, int pupil, int... want) {
        for (int s = 0; s < want.length; s++) {
            due(call + ", weight " + s, x.told(pupil, 4 + s), want[s]);
        }
    }

    private static void summer() {
        MovesUp x = new MovesUp();
        x.pupil(0, 300);
        x.weigh(0, 12345);
        due("summer(0, 3)", x.summer(0, 3), 150);
        weights("summer(0, 3)", x, 0, 62, 37, 27, 17, 7);
        due("summer(0, 0)", x.summer(0, 0), 150);
        x.weigh(0, 6024);
        due("a summer of none", x.summer(0, 0), 6);
        weights("each by what divides them", x, 0, 2, 1, 0, 3, 0);
        x.weigh(0, 20000);
        due("half go", x.summer(0, 5), 2);
        weights("half go", x, 0, 0, 0, 0, 1, 1);
        x.weigh(0, 7);
        due("the lowest stay", x.summer(0, 9), 1);
        due("the class stays", x.told(0, 1), 3);
        x.weigh(0, 99998);
        due("summer one", x.summer(0, 1), 440);
        due("summer two", x.summer(0, 1), 4400);
        due("too much", x.summer(0, 1), STATE);
        due("nothing is so", x.count(4), 4400);
        for (int tenths : new int[] {-1, 10, Integer.MAX_VALUE, Integer.MIN_VALUE}) {
            due("summer " + tenths, x.summer(0, tenths), BAD);
        }
        for (int far : FAR) {
            due("summer of " + far, x.summer(far, 1), BAD);
        }
        due("summer of none", x.summer(1, 1), BAD);
    }

    private static void test() {
        MovesUp x = new MovesUp();
        x.pupil(0, 0);
        due("test(0, 101)", x.test(0, 101), 1);
        weights("test(0, 101)", x, 0, 4, 5, 0, 0, 0);
        due("its class", x.told(0, 1), 1);
        // 4 5 in class 1 as in thought(): 168 296 250
        due("test(0, 101) again", x.test(0, 101), 2);
        weights("test(0, 101) again", x, 0, 84, 148, 125, 0, 0);
        x.weigh(0, 60300);
        due("a test of no weeks", x.test(0, 0), 2);
        weights("a test of no weeks", x, 0, 0, 0, 1, 0, 2);
        x = ruled("learn 0;right 5;end 0;");
        x.pupil(4, 300);
        due("wrong, wrong", x.test(0, 200), 2);
        weights("wrong, wrong", x, 0, 1, 0, 0, 0, 0);
        due("a new test begins at week 0", x.test(0, 100), 2);
        due("with nothing ahead", x.test(0, 100), 2);
        due("five wrong", x.test(0, 500), 0);
        x = ruled("learn moved;right 10;end 0;");
        x.pupil(0, 0);
        due("how often it moved", x.test(0, 101), 1);
        due("begins at 0, too", x.test(0, 101), 2);
        weights("so it learned nothing", x, 0, 1, 0, 0, 0, 0);
    }

    private static void testsRefusals() {
        MovesUp x = ruled("learn 0;right 10*(step=0);end 0;");
        x.pupil(0, 0);
        due("a test that can't be", x.test(0, 100), STATE);
        due("its class stays", x.told(0, 1), 0);
        due("its weights stay", x.count(4), 1);
        due("bits that can't be", x.test(0, 201), STATE);
        for (int bad : new int[] {-1, 1, 102, 204, 308, 416, 532, 600, Integer.MIN_VALUE, Integer.MAX_VALUE}) {
            due("test marks " + bad, x.test(0, bad), BAD);
        }
        for (int far : FAR) {
            due("test of " + far, x.test(far, 0), BAD);
        }
        due("test of none", x.test(1, 0), BAD);
        x = ruled("learn 5;right 5;end 0;");
        x.pupil(0, 0);
        x.weigh(0, 1);
        due("halves", x.test(0, 500), 0);
        weights("halves", x, 0, 1, 5, 10, 10, 6);
        due("much", x.test(0, 500), 0);
        due("32 times 32", x.count(4), 1024);
        due("too much", x.test(0, 531), STATE);
        due("its class stays", x.told(0, 1), 0);
        due("as much as before", x.count(4), 1024);
        due("a test of 3 weeks", x.test(0, 300), 0);
        due("8192 in all", x.count(4), 8192);
        due("a test of 1 week", x.test(0, 100), STATE);
        // 6561 + 2744 + 500 + 189 + 5 are 9999
        x = ruled("learn 0;right 9-step*2;end 0;");
        x.pupil(2, 0);
        x.weigh(0, 67489);
        due("10000 in all", x.test(0, 307), STATE);
        x.weigh(0, 57489);
        due("9999 in all", x.test(0, 307), 0);
        weights("9999 in all", x, 0, 6561, 2744, 500, 189, 5);
    }

    private static void cut() {
        MovesUp x = new MovesUp();
        row(x, 0, 0, 5, 5, 9, 1, 1, 4);
        // 10 9 6: 217 with ends behind 1, 2, 5
        due("into 3", x.cut(3, 0, 0), 217);
        due("into 3, ends", x.cut(3, 0, 1), 38);
        due("into 1", x.cut(1, 0, 0), 625);
        due("into 1, ends", x.cut(1, 0, 1), 32);
        due("into 6", x.cut(6, 0, 0), 149);
        due("into 6, ends", x.cut(6, 0, 1), 63);
        due("into 7", x.cut(7, 0, 0), NONE);
        due("into 10", x.cut(10, 0, 1), NONE);
        row(x, 1, 2, 0, 0, 0, 0);
        due("of like ones the least", x.cut(2, 1, 1), 9);
        due("of like ones the least, 3", x.cut(3, 1, 1), 11);
        row(x, 1, 1, 1, 2, 1);
        due("two alike", x.cut(2, 1, 1), 5);
        due("two alike, the sum", x.cut(2, 1, 0), 10);
        row(x, 2, 1, 99, 99, 99, 99, 99, 99, 99, 99, 99, 99);
        due("the greatest sum", x.cut(1, 2, 0), 980100);
        due("ten by one", x.cut(10, 2, 1), 1023);
        due("ten by two", x.cut(2, 2, 0), 490050);
        due("ten by two, ends", x.cut(2, 2, 1), 528);
        row(x, 3, 0, 7);
        due("one into one", x.cut(1, 3, 0), 49);
        due("one into one, ends", x.cut(1, 3, 1), 1);
    }

    private static void cutsRefusals() {
        MovesUp x = new MovesUp();
        due("a missing sheet", x.cut(1, 0, 0), -11);
        for (int n : new int[] {-1, 0, 11, Integer.MAX_VALUE, Integer.MIN_VALUE}) {
            due("cut into " + n, x.cut(n, 0, 0), BAD);
        }
        for (int far : new int[] {-1, 4, Integer.MAX_VALUE, Integer.MIN_VALUE}) {
            due("cut of " + far, x.cut(1, far, 0), BAD);
        }
        for (int far : new int[] {-1, 2, Integer.MAX_VALUE, Integer.MIN_VALUE}) {
            due("cut what " + far, x.cut(1, 0, far), BAD);
        }
        row(x, 0, 0);
        due("an empty row", x.cut(1, 0, 0), BAD);
        row(x, 0, 0, 1, 1, 1, 1, 1, 1, 1, 1, 1, 1, 1);
        due("eleven steps", x.cut(1, 0, 0), BAD);
        row(x, 0, 0, 1, -1);
        due("an hour below 0", x.cut(1, 0, 0), BAD);
        due("ahead of too few steps", x.cut(3, 0, 0), BAD);
        row(x, 0, 1, 1, 100);
        due("100 hours", x.cut(1, 0, 0), BAD);
        row(x, 0, 0, 255);
        due("a byte below 0", x.cut(1, 0, 0), BAD);
    }

    // ---- 19 .. 21

    private static void imageAndBack() {
        MovesUp x = ruled("learn 10;right 5;end 0;");
        due("back() without an image", x.back(), STATE);
        x.pupil(0, 100);
        x.pupil(3, 200);
        x.weigh(0, 12);
        due("image()", x.image(), 2);
        x.weigh(0, 99999);
        x.test(1, 101);
        x.pupil(2, 402);
        x.weigh(2, 33);
        x.force(0);
        put(x, "learn");
        due("back()", x.back(), 3);
        weights("back()", x, 0, 2, 1, 0, 0, 0);
        weights("back()", x, 1, 1, 0, 0, 0, 0);
        weights("a pupil that came since", x, 2, 3, 3, 0, 0, 0);
        due("its class", x.told(1, 1), 2);
        due("the rule", x.count(3), 1);
        due("the tape stays", x.count(2), 5);
        due("texts stay", x.count(1), 2);
        x.test(0, 101);
        x.weigh(2, 4);
        due("class before", x.told(0, 1), 2);
        due("back() again", x.back(), 3);
        due("class behind", x.told(0, 1), 1);
        due("a pupil that came since still stays", x.told(2, 4), 4);
        x.weigh(0, 7);
        due("another image()", x.image(), 3);
        x.weigh(0, 8);
        x.weigh(2, 9);
        due("back() to that", x.back(), 3);
        due("its weight", x.told(0, 4), 7);
        due("the other's weight", x.told(2, 4), 4);
        x = new MovesUp();
        due("image() of none", x.image(), 0);
        due("back() to none", x.back(), 0);
    }

    private static void count() {
        MovesUp x = ruled("learn 10;right 5;end 0;");
        x.pupil(0, 100);
        x.pupil(0, 415);
        x.weigh(1, 12345);
        put(x, "abc");
        int[] want = {2, 2, 3, 1, 16, 5};
        for (int what = 0; what < want.length; what++) {
            due("count(" + what + ")", x.count(what), want[what]);
        }
        for (int what : new int[] {-1, 6, Integer.MAX_VALUE, Integer.MIN_VALUE}) {
            due("count(" + what + ")", x.count(what), BAD);
        }
    }

    // ---- 22 .. 26

    private static void sheet() {
        MovesUp x = new MovesUp();
        due("sheet(0, 0, 40)", x.sheet(0, 0, 40), 1);
        due("its last", x.cell(0, 39, 1), 1);
        due("one more", x.cell(0, 40, 1), -12);
        due("sheet(3, 2, 0)", x.sheet(3, 2, 0), 1);
        due("sheet(0, 0, 41)", x.sheet(0, 0, 41), BAD);
        due("sheet(0, 0, max)", x.sheet(0, 0, Integer.MAX_VALUE), BAD);
        due("sheet(0, 0, -1)", x.sheet(0, 0, -1), -14);
        due("sheet(0, 0, min)", x.sheet(0, 0, Integer.MIN_VALUE), -14);
        due("what is refused changes nothing", x.cell(0, 39, 1), 1);
        for (int far : new int[] {-1, 4, Integer.MAX_VALUE, Integer.MIN_VALUE}) {
            due("sheet " + far, x.sheet(far, 0, -1), BAD);
        }
        for (int far : new int[] {-2, 3, Integer.MAX_VALUE, Integer.MIN_VALUE}) {
            due("sort " + far, x.sheet(0, far, -1), BAD);
        }
        row(x, 1, 2, 7, 7);
        due("made anew", x.sheet(1, 2, 2), 1);
        due("all are 0", x.cut(1, 1, 0), 0);
        for (int n : new int[] {0, -1, 41, Integer.MIN_VALUE}) {
            due("missing, n " + n, x.sheet(1, -1, n), 1);
            due("missing then", x.cell(1, 0, 1), -11);
            x.sheet(1, 2, 2);
        }
    }

    private static void cell() {
        MovesUp x = new MovesUp();
        due("cell of a missing one", x.cell(0, 0, 1), -11);
        for (int far : new int[] {-1, 4, Integer.MAX_VALUE, Integer.MIN_VALUE}) {
            due("cell of sheet " + far, x.cell(far, 0, 1), BAD);
        }
        x.sheet(0, 0, 1);
        for (int far : new int[] {-1, 1, 40, Integer.MAX_VALUE, Integer.MIN_VALUE}) {
            due("cell " + far, x.cell(0, far, 1), -12);
        }
        due("a byte", x.cell(0, 0, 256 * 77 + 5), 1);
        due("its lowest 8 bits", x.cut(1, 0, 0), 25);
        x.cell(0, 0, 133);
        due("of which the highest is a sign", x.cut(1, 0, 0), BAD);
        x.sheet(0, 1, 1);
        x.cell(0, 0, 65536 * 77 + 6);
        due("a short's lowest 16 bits", x.cut(1, 0, 0), 36);
        x.cell(0, 0, 256 + 6);
        due("and no fewer", x.cut(1, 0, 0), BAD);
        x.sheet(0, 2, 1);
        x.cell(0, 0, 65536 + 6);
        due("an int has all", x.cut(1, 0, 0), BAD);
        x.cell(0, 0, 8);
        due("an int", x.cut(1, 0, 0), 64);
    }

    private static void copy() {
        MovesUp x = new MovesUp();
        row(x, 0, 0, 1, 2, 4, 8);
        row(x, 1, 0, 0, 0);
        due("copy", x.copy(0, 1, 1, 0, 2), 2);
        due("what came", x.cut(2, 1, 0), 4 + 16);
        due("within one, up", x.copy(0, 0, 0, 1, 3), 3);
        due("as they were", x.cut(4, 0, 0), 1 + 1 + 4 + 16);
        due("within one, down", x.copy(0, 1, 0, 0, 3), 3);
        due("as they were then", x.cut(4, 0, 0), 1 + 4 + 16 + 16);
        due("none, behind the last", x.copy(0, 4, 1, 2, 0), 0);
        int[][] outside = {{5, 0, 0}, {0, 3, 0}, {-1, 0, 1}, {0, -1, 1}, {0, 0, -1}, {3, 0, 2}, {0, 1, 2}, {0, 0, 3},
            {Integer.MAX_VALUE, 0, 1}, {0, Integer.MAX_VALUE, 1}, {1, 1, Integer.MAX_VALUE}, {0, 0, Integer.MIN_VALUE},
            {Integer.MIN_VALUE, 0, Integer.MIN_VALUE}, {Integer.MAX_VALUE, Integer.MAX_VALUE, Integer.MAX_VALUE}};
        for (int[] o : outside) {
            due("copy from " + o[0] + " to " + o[1] + " of " + o[2], x.copy(0, o[0], 1, o[1], o[2]), -12);
        }
        due("what is refused changes nothing", x.cut(2, 1, 0), 4 + 16);
        for (int far : new int[] {-1, 4, Integer.MAX_VALUE, Integer.MIN_VALUE}) {
            due("copy of " + far, x.copy(far, 0, 2, 0, 1), BAD);
            due("copy to " + far, x.copy(2, 0, far, 0, 1), BAD);
        }
        due("a missing one", x.copy(2, 0, 0, 0, -1), -11);
        due("to a missing one", x.copy(0, 0, 2, 0, -1), -11);
        row(x, 2, 1, 1, 1);
        due("unlike sorts", x.copy(0, 0, 2, 0, -1), -13);
        due("unlike sorts, the other way", x.copy(2, 0, 0, 0, 0), -13);
    }

    private static void pupils() {
        MovesUp x = new MovesUp();
        row(x, 0, 1, 9, 0, 112, 1, 40, 2, 439, 6, 0, 3, 5);
        due("from 1 on", x.pupils(0, 1, 1, 3), 2);
        due("kind of the first", x.told(0, 0), 0);
        due("class of the first", x.told(0, 1), 1);
        due("sort of the first", x.told(0, 2), 1);
        due("number of the first", x.told(0, 3), 2);
        due("kind of the second", x.told(1, 0), 2);
        due("class of the second", x.told(1, 1), 4);
        due("none", x.pupils(0, 1, 0, 0), 0);
        due("none, from outside", x.pupils(0, 1, 99, 0), 0);
        due("what stood ahead came", x.pupils(0, 1, 9, 8), -12);
        due("count(0)", x.count(0), 3);
        due("half a pair", x.pupils(0, 1, 12, 1), -12);
        due("count(0) still", x.count(0), 3);
        row(x, 1, 0, 0, 0, 1, 1, 2, 2, 3, 3, 4, 4, 5, 5, 0, 6);
        due("as many as have room", x.pupils(1, 0, 0, 7), 5);
        due("count(0) then", x.count(0), 8);
        due("the last of them", x.told(7, 0), 4);
        due("no room", x.pupils(1, 0, 0, 8), -12);
        due("no room, all there", x.pupils(1, 0, 0, 7), 0);
    }

    private static void pupilsRefusals() {
        MovesUp x = new MovesUp();
        row(x, 0, 2, 0, 0);
        due("a missing one", x.pupils(1, 0, 0, 0), -11);
        due("another sort", x.pupils(0, 1, 0, 1), -13);
        due("another sort, outside", x.pupils(0, 0, 9, 1), -13);
        for (int far : new int[] {-1, 4, Integer.MAX_VALUE, Integer.MIN_VALUE}) {
            due("pupils by " + far, x.pupils(far, 2, 0, 1), BAD);
        }
        for (int far : new int[] {-1, 3, Integer.MAX_VALUE, Integer.MIN_VALUE}) {
            due("pupils sort " + far, x.pupils(0, far, 0, 1), BAD);
            due("pupils sort " + far + ", missing", x.pupils(1, far, 0, 1), BAD);
        }
        for (int far : new int[] {-1, 9, Integer.MAX_VALUE, Integer.MIN_VALUE}) {
            due("pupils n " + far, x.pupils(0, 2, 0, far), BAD);
        }
        for (int far : new int[] {-1, -2, 1, 2, Integer.MAX_VALUE, Integer.MAX_VALUE - 1, Integer.MIN_VALUE}) {
            due("pupils from " + far, x.pupils(0, 2, far, 1), -12);
        }
        due("none came", x.count(0), 0);
    }

    private static void taken() {
        MovesUp x = new MovesUp();
        boolean[][] under = {{true, false, false, false, false, false}, {true, true, false, false, false, false},
            {true, false, true, false, false, false}, {true, false, false, true, false, false},
            {true, true, false, false, true, false}, {true, false, false, true, false, true}};
        for (int kind = 0; kind < 6; kind++) {
            x.pupil(kind, kind + 2);
            for (int k = 0; k < 6; k++) {
                due("taken(" + kind + ", " + k + ")", x.taken(kind, k), under[kind][k] ? kind + 2 : -13);
            }
        }
        for (int far : new int[] {-1, 6, Integer.MAX_VALUE, Integer.MIN_VALUE}) {
            due("taken for " + far, x.taken(far, far), BAD);
            due("taken " + far, x.taken(far, 0), -11);
        }
    }
}
