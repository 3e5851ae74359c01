/** Edges of promises 15 to 21: who may go up, summers and tests, classes cut otherwise, the image, what is counted. */
public final class EdgeYearTest {
    private static final int BAD = Edges.BAD, STATE = Edges.STATE, NONE = Edges.NONE, NOTHING = Edges.NOTHING;
    private static final int MIN = Edges.MIN, MAX = Edges.MAX;
    private static final int PUPIL = 0, TIMED = 2, BACK = 4;
    private static final int[] NO_PUPILS = {-1, 6, 7, 8, MAX, MIN};
    private static final Edges EDGES = new Edges();

    public static void main(String[] args) {
        roomsNumbers();
        roomsRow();
        roomOfSome();
        roomOfLikeOnes();
        roomByMarks();
        refusedSummers();
        summer();
        summersMost();
        refusedTests();
        test();
        testsMost();
        cutsNumbers();
        cutsRow();
        cutsOfTooFew();
        cutsOfLikeOnes();
        cutsEnds();
        noImage();
        image();
        since();
        count();
        EDGES.end("EdgeYearTest");
    }

    private static void due(String call, long got, long want) {
        EDGES.due(call, got, want);
    }

    private static void weights(String call, MovesUp x, int pupil, int... want) {
        for (int step = 0; step < 5; step++) {
            due(call + ", weight " + step, x.told(pupil, 4 + step), want[step]);
        }
    }

    /** Pupils in class 1 who never move, of two steps each. */
    private static MovesUp still(int... digits) {
        MovesUp x = Edges.ruled("learn 0;right 5;end 0;");
        for (int i = 0; i < digits.length; i++) {
            x.pupil(TIMED, 100);
            x.weigh(i, digits[i]);
        }
        return x;
    }

    // ---- room

    private static MovesUp roomy() {
        MovesUp x = Edges.usual();
        Edges.row(x, 0, 1, 0, 101, 202, 303, 404, 505);
        return x;
    }

    private static void roomsNumbers() {
        EDGES.sentence("room: BAD: PUPILS");
        for (int bits : new int[] {-1, 64, 65, 127, 128, 256, MAX, MIN}) {
            EDGES.refused(EdgeYearTest::roomy, "room(" + bits + ", 1, 0)", BAD, y -> y.room(bits, 1, 0));
            EDGES.refused(EdgeYearTest::roomy, "room(" + bits + ", 1, 2), missing", BAD, y -> y.room(bits, 1, 2));
        }
        EDGES.refused(MovesUp::new, "room(1, 1, 0) of no pupils", BAD, y -> y.room(1, 1, 0));
        EDGES.refused(Edges::full, "room(256, 1, 3) of eight", BAD, y -> y.room(256, 1, 3));
        EDGES.refused(Edges::full, "room(255, 1, 3) of eight, missing", NOTHING, y -> y.room(255, 1, 3));
        EDGES.sentence("room: BAD: how many (0 .. 8)");
        for (int many : new int[] {-1, 9, 10, MAX, MIN}) {
            EDGES.refused(EdgeYearTest::roomy, "room(63, " + many + ", 0)", BAD, y -> y.room(63, many, 0));
            EDGES.refused(EdgeYearTest::roomy, "room(63, " + many + ", 2), missing", BAD, y -> y.room(63, many, 2));
        }
        due("room(63, 8, 0)", roomy().room(63, 8, 0), 63);
        due("room(63, 0, 0)", roomy().room(63, 0, 0), 0);
        EDGES.sentence("room: BAD: SHEET");
        for (int sheet : new int[] {-1, 4, 5, MAX, MIN}) {
            EDGES.refused(EdgeYearTest::roomy, "room(63, 1, " + sheet + ")", BAD, y -> y.room(63, 1, sheet));
        }
        EDGES.sentence("room: -11 nothing where something is asked");
        EDGES.refused(EdgeYearTest::roomy, "room(63, 1, 2)", NOTHING, y -> y.room(63, 1, 2));
        EDGES.refused(EdgeYearTest::roomy, "room(0, 0, 2)", NOTHING, y -> y.room(0, 0, 2));
        EDGES.onlyAsks(EdgeYearTest::roomy, "room", y -> y.room(63, 3, 0) + y.room(5, 1, 0));
    }

    private static MovesUp rowed(int sort, int... items) {
        MovesUp x = Edges.usual();
        Edges.row(x, 2, sort, items);
        return x;
    }

    private static void roomsRow() {
        EDGES.sentence("room: BAD: its size isn't as many as there are PUPILS");
        EDGES.refused(() -> rowed(1), "room by an empty row", BAD, y -> y.room(63, 1, 2));
        EDGES.refused(() -> rowed(1, 0, 0, 0, 0, 0), "room by 5 of 6", BAD, y -> y.room(63, 1, 2));
        EDGES.refused(() -> rowed(1, 0, 0, 0, 0, 0), "room of 5 by 5 of 6", BAD, y -> y.room(31, 1, 2));
        EDGES.refused(() -> rowed(1, 0, 0, 0, 0, 0, 0, 0), "room by 7 of 6", BAD, y -> y.room(63, 1, 2));
        EDGES.refused(() -> rowed(1, new int[40]), "room by a full row", BAD, y -> y.room(63, 1, 2));
        due("room by 6 of 6", rowed(1, 0, 0, 0, 0, 0, 0).room(63, 8, 2), 63);
        EDGES.sentence("room: of no PUPILS by an empty row");
        MovesUp x = new MovesUp();
        x.sheet(0, 2, 0);
        due("room(0, 0, 0)", x.room(0, 0, 0), 0);
        due("room(0, 8, 0)", x.room(0, 8, 0), 0);
        due("room(1, 8, 0)", x.room(1, 8, 0), BAD);
        EDGES.sentence("room: BAD: MARKS");
        for (int marks : new int[] {-1, -100, 1, 99, 102, 204, 308, 416, 532, 600, 65536, MAX, MIN}) {
            for (int at = 0; at < 6; at++) {
                int[] row = new int[6];
                row[at] = marks;
                EDGES.refused(() -> rowed(2, row), "room by " + marks + " at " + at, BAD, y -> y.room(63, 1, 2));
                EDGES.refused(() -> rowed(2, row), "room of others by " + marks, BAD, y -> y.room(0, 0, 2));
            }
        }
        due("room by the most marks", rowed(2, 531, 415, 307, 203, 101, 0).room(63, 8, 2), 63);
        due("room by the least marks", rowed(2, 500, 400, 300, 200, 100, 0).room(63, 8, 2), 63);
        EDGES.sentence("room: a SHEET of bytes, shorts");
        due("room by bytes", rowed(0, 100, 101, 0, 0, 0, 0).room(63, 8, 2), 63);
        due("room by bytes below 0", rowed(0, 200, 0, 0, 0, 0, 0).room(63, 8, 2), BAD);
        due("room by shorts", rowed(1, 531, 0, 0, 0, 0, 65536 + 203).room(63, 8, 2), 63);
    }

    private static void roomOfSome() {
        EDGES.sentence("ROOM: so many (0 .. 8) may go up: bits (fewer, if there are no more)");
        MovesUp x = still(19, 28, 37, 46, 55, 64, 73, 82);
        Edges.row(x, 0, 2, 0, 0, 0, 0, 0, 0, 0, 0);
        for (int many = 0; many <= 8; many++) {
            due("room(255, " + many + ", 0)", x.room(255, many, 0), 256 - (256 >> many));
            due("room(15, " + many + ", 0)", x.room(15, many, 0), 16 - (16 >> Math.min(4, many)));
            due("room(0, " + many + ", 0)", x.room(0, many, 0), 0);
            due("room(1, " + many + ", 0)", x.room(1, many, 0), many > 0 ? 1 : 0);
            due("room(128, " + many + ", 0)", x.room(128, many, 0), many > 0 ? 128 : 0);
        }
        EDGES.sentence("ROOM: those who are likeliest");
        due("room(136, 1, 0)", x.room(136, 1, 0), 128);
        due("room(9, 1, 0)", x.room(9, 1, 0), 8);
        EDGES.sentence("ROOM: of PUPILS (bits), no others");
        due("room(7, 2, 0)", x.room(7, 2, 0), 6);
        due("room(33, 2, 0)", x.room(33, 2, 0), 33);
    }

    private static void roomOfLikeOnes() {
        EDGES.sentence("ROOM: of like ones the least");
        MovesUp x = still(11, 22, 33, 44, 55, 66, 77, 88);
        Edges.row(x, 0, 2, 0, 0, 0, 0, 0, 0, 0, 0);
        for (int many = 0; many <= 8; many++) {
            due("room(255, " + many + ", 0)", x.room(255, many, 0), (1 << many) - 1);
            due("room(252, " + many + ", 0)", x.room(252, many, 0), ((1 << Math.min(6, many)) - 1) << 2);
        }
        EDGES.sentence("ROOM: likely by 0 by 1: none the less, if there are no others");
        x = Edges.ruled("learn 0;right 10*(step=0);end 0;");
        for (int i = 0; i < 3; i++) {
            x.pupil(TIMED, 100);
        }
        x.weigh(2, 91);
        Edges.row(x, 0, 1, 100, 0, 0);
        due("one", x.room(7, 1, 0), 4);
        due("two", x.room(7, 2, 0), 5);
        due("three", x.room(7, 3, 0), 7);
        due("of those that are never so", x.room(3, 1, 0), 1);
        Edges.row(x, 0, 1, 0, 100, 0);
        due("of like ones the least, the other by marks that can't be", x.room(3, 1, 0), 1);
        EDGES.sentence("ROOM: (in tenthousandths, cut)");
        // 127 of 143 and 143 of 161 behind a right week: 8881 both; 142 of 161 are 8819
        x = Edges.ruled("learn 0;right 2+step;end 0;");
        for (int digits : new int[] {59788, 99849, 59788}) {
            x.weigh(x.pupil(TIMED, 100), digits);
        }
        Edges.row(x, 0, 1, 101, 101, 101);
        due("the less likely one", x.room(3, 1, 0), 1);
        due("the likelier one", x.room(6, 1, 0), 2);
        Edges.row(x, 0, 1, 101, 101, 100);
        due("two of them", x.room(7, 2, 0), 3);
        EDGES.sentence("ROOM: (in tenthousandths, cut): 9875 both, of 10001 parts not");
        x.weigh(0, 99891);
        x.weigh(1, 99981);
        Edges.row(x, 0, 1, 101, 101, 101);
        due("79 of 80 and 159 of 161", x.room(3, 1, 0), 1);
        EDGES.sentence("ROOM: (in tenthousandths, cut): 8922 and 8923, of 10001 parts 8923 both");
        x.weigh(0, 99869);
        x.weigh(1, 88707);
        due("149 of 167 and 58 of 65", x.room(3, 1, 0), 2);
    }

    private static void roomByMarks() {
        EDGES.sentence("ROOM: after told MARKS of each; their CLASS's STEP then");
        MovesUp x = Edges.ruled("learn 0;right 5;end 0;");
        for (int i = 0; i < 3; i++) {
            x.pupil(PUPIL, 0);
            x.weigh(i, 11);
        }
        // behind a right week its class is 1, which is a half likely
        Edges.row(x, 0, 1, 101, 100, 0);
        due("who went up is less likely", x.room(3, 1, 0), 2);
        due("two", x.room(7, 2, 0), 6);
        Edges.row(x, 0, 1, 502, 101, 203);
        due("in class 2 none", x.room(7, 1, 0), 1);
        due("then the next", x.room(6, 1, 0), 2);
        EDGES.sentence("ROOM: 100 times how many WEEKS: also where none was RIGHT");
        x = Edges.ruled("learn 0;right 5;end 0;");
        for (int i = 0; i < 3; i++) {
            x.pupil(TIMED, 1);
            x.weigh(i, 111);
        }
        Edges.row(x, 0, 1, 200, 100, 0);
        due("room(7, 1, 0)", x.room(7, 1, 0), 4);
        due("room(3, 1, 0)", x.room(3, 1, 0), 2);
        EDGES.sentence("ROOM: also who is in CLASS 4 already");
        x = Edges.ruled("learn 0;right 5;end 0;");
        x.pupil(TIMED, 400);
        x.pupil(TIMED, 400);
        x.weigh(1, 10000);
        Edges.row(x, 0, 1, 0, 0);
        due("room(3, 1, 0)", x.room(3, 1, 0), 2);
    }

    // ---- summer

    private static void refusedSummers() {
        EDGES.sentence("summer: BAD: no such PUPIL");
        for (int pupil : NO_PUPILS) {
            EDGES.refused(Edges::usual, "summer(" + pupil + ", 1)", BAD, y -> y.summer(pupil, 1));
        }
        EDGES.sentence("summer: BAD: so many times (0 .. 9 of 10)");
        for (int tenths : new int[] {-1, 10, 11, MAX, MIN}) {
            EDGES.refused(Edges::usual, "summer(0, " + tenths + ")", BAD, y -> y.summer(0, tenths));
        }
        EDGES.sentence("summer: BAD; STATE");
        EDGES.refused(EdgeYearTest::heavy, "summer(0, 1)", STATE, y -> y.summer(0, 1));
        EDGES.refused(EdgeYearTest::heavy, "summer(0, 10)", BAD, y -> y.summer(0, 10));
        EDGES.refused(EdgeYearTest::heavy, "summer(1, 1)", BAD, y -> y.summer(1, 1));
    }

    /** One pupil of class 0, whose weights are 9999 together. */
    private static MovesUp heavy() {
        MovesUp x = Edges.ruled("learn 0;right 9-step*2;end 0;");
        x.pupil(TIMED, 0);
        x.image();
        x.weigh(0, 57489);
        x.test(0, 307);
        return x;
    }

    private static void summer() {
        EDGES.sentence("SUMMER: of each so many times (0 .. 9 of 10) go to the STEP below, the others stay");
        MovesUp x = new MovesUp();
        x.pupil(PUPIL, 200);
        for (int tenths = 1; tenths < 10; tenths++) {
            int common = tenths % 2 == 0 ? 2 : tenths == 5 ? 5 : 1;
            for (int step = 1, digit = 10; step < 5; step++, digit *= 10) {
                x.weigh(0, digit);
                due("summer(0, " + tenths + ") of step " + step, x.summer(0, tenths), 10 / common);
                for (int other = 0; other < 5; other++) {
                    int want = other == step ? 10 - tenths : other == step - 1 ? tenths : 0;
                    due("weight " + other, x.told(0, 4 + other), want / common);
                }
            }
            EDGES.sentence("SUMMER: (of STEP 0 they stay); " + tenths + " tenths");
            x.weigh(0, 7);
            due("summer(0, " + tenths + ") of step 0", x.summer(0, tenths), 1);
            weights("of step 0", x, 0, 1, 0, 0, 0, 0);
        }
        EDGES.sentence("SUMMER of 0 tenths: each by what divides them all");
        x.weigh(0, 6024);
        due("summer(0, 0)", x.summer(0, 0), 6);
        weights("summer(0, 0)", x, 0, 2, 1, 0, 3, 0);
        due("summer(0, 0) again", x.summer(0, 0), 6);
        EDGES.sentence("SUMMER: all at once, none falls by two");
        x.weigh(0, 11111);
        due("summer(0, 9)", x.summer(0, 9), 50);
        weights("summer(0, 9)", x, 0, 19, 10, 10, 10, 1);
        EDGES.sentence("SUMMER: WEIGHTS alone, of one PUPIL alone");
        x.pupil(PUPIL, 300);
        x.weigh(1, 222);
        x.summer(0, 1);
        weights("the other's", x, 1, 2, 2, 2, 0, 0);
        due("class", x.told(0, 1), 2);
    }

    private static void summersMost() {
        EDGES.sentence("SUMMER: (STATE if WEIGHTS come to more than 9999 in all)");
        MovesUp x = heavy();
        due("9999 in all", x.summer(0, 0), 9999);
        weights("9999 in all", x, 0, 6561, 2744, 500, 189, 5);
        due("99990 in all", x.summer(0, 1), STATE);
        weights("nothing is so", x, 0, 6561, 2744, 500, 189, 5);
        // 900 81 18 1 are 1000, and by a tenth 9081 747 163 9
        String text = "learn 0;right 10*(step=0)+9*(step=1)+3*(step=2)+(step=3);end 0;";
        EDGES.refused(() -> thousand(text), "summer(0, 1) to 10000", STATE, y -> y.summer(0, 1));
        x = thousand(text);
        due("1000 in all", x.count(4), 1000);
        // by halves 9405 495 95 5: also 10000, but each by 5
        due("by 5 tenths", x.summer(0, 5), 2000);
        weights("by 5 tenths", x, 0, 1881, 99, 19, 1, 0);
    }

    private static MovesUp thousand(String text) {
        MovesUp x = Edges.ruled(text);
        x.pupil(TIMED, 0);
        x.weigh(0, 1219);
        x.test(0, 203);
        return x;
    }

    // ---- test

    private static void refusedTests() {
        EDGES.sentence("test: BAD: MARKS");
        for (int marks : new int[] {-1, -100, 1, 99, 102, 199, 204, 308, 416, 532, 600, 65536, MAX, MIN}) {
            EDGES.refused(Edges::usual, "test(0, " + marks + ")", BAD, y -> y.test(0, marks));
        }
        EDGES.sentence("test: BAD: no such PUPIL");
        for (int pupil : NO_PUPILS) {
            EDGES.refused(Edges::usual, "test(" + pupil + ", 0)", BAD, y -> y.test(pupil, 0));
        }
        EDGES.sentence("test: BAD; STATE");
        EDGES.refused(EdgeYearTest::heavy, "test(0, 100)", STATE, y -> y.test(0, 100));
        EDGES.refused(EdgeYearTest::heavy, "test(0, 102)", BAD, y -> y.test(0, 102));
        EDGES.refused(EdgeYearTest::heavy, "test(1, 100)", BAD, y -> y.test(1, 100));
        EDGES.sentence("A TEST: (STATE, and nothing is so, if WEIGHTS come to 0)");
        EDGES.refused(EdgeYearTest::neverWrong, "test(0, 100)", STATE, y -> y.test(0, 100));
        EDGES.refused(EdgeYearTest::neverWrong, "test(0, 523)", STATE, y -> y.test(0, 523));
        EDGES.refused(EdgeYearTest::neverWrong, "test(0, 102)", BAD, y -> y.test(0, 102));
        MovesUp x = neverWrong();
        due("test(0, 531)", x.test(0, 531), 4);
        weights("test(0, 531)", x, 0, 5, 4, 3, 2, 1);
    }

    private static MovesUp neverWrong() {
        MovesUp x = Edges.ruled("learn 0;right 10;end 0;");
        x.pupil(PUPIL, 0);
        x.weigh(0, 12345);
        return x;
    }

    private static void test() {
        EDGES.sentence("A TEST of no WEEKS: each by what divides them all; its CLASS stays");
        MovesUp x = new MovesUp();
        x.pupil(TIMED, 301);
        x.weigh(0, 60309);
        due("test(0, 0)", x.test(0, 0), 3);
        weights("test(0, 0)", x, 0, 3, 0, 1, 0, 2);
        x.weigh(0, 99999);
        due("test(0, 0) of like ones", x.test(0, 0), 3);
        weights("test(0, 0) of like ones", x, 0, 1, 1, 1, 1, 1);
        EDGES.sentence("A TEST: its CLASS is as it MOVED (held)");
        x = Edges.ruled("learn 0;right 5;end 0;");
        x.pupil(PUPIL, 300);
        x.pupil(BACK, 100);
        x.pupil(TIMED, 1);
        due("test(0, 531)", x.test(0, 531), 4);
        due("test(0, 531) again", x.test(0, 531), 4);
        due("test(1, 500)", x.test(1, 500), 0);
        due("test(1, 500) again", x.test(1, 500), 0);
        due("test(2, 500)", x.test(2, 500), 4);
        weights("its weights", x, 0, 1, 0, 0, 0, 0);
        EDGES.sentence("A TEST: behind it WEEK 0 is ahead, none has MOVED");
        x = Edges.ruled("learn 10*(week=0 and moved=0);right 5;end 0;");
        x.pupil(PUPIL, 0);
        for (int i = 1; i < 6; i++) {
            due("test(0, 101) " + i, x.test(0, 101), Math.min(4, i));
            due("all is on step " + i, x.told(0, 4 + Math.min(4, i)), 1);
        }
    }

    private static void testsMost() {
        EDGES.sentence("A TEST: (STATE, and nothing is so, if WEIGHTS come to more than 9999 in all)");
        MovesUp x = Edges.ruled("learn 0;right 9-step*2;end 0;");
        x.pupil(TIMED, 1);
        x.weigh(0, 67489);
        due("10000 in all", x.test(0, 307), STATE);
        weights("10000 in all", x, 0, 9, 8, 4, 7, 6);
        due("its class", x.told(0, 1), 0);
        x.weigh(0, 57489);
        due("9999 in all", x.test(0, 307), 3);
        due("count(4)", x.count(4), 9999);
        EDGES.sentence("A TEST: 9999 in all that nothing divides, and 10000");
        x = Edges.ruled("learn 1;right 6-step;end 0;");
        x.pupil(TIMED, 0);
        x.weigh(0, 2102);
        due("test(0, 203)", x.test(0, 203), 0);
        weights("test(0, 203)", x, 0, 5832, 990, 1336, 1647, 194);
        EDGES.refused(EdgeYearTest::tenThousand, "test(0, 203)", STATE, y -> y.test(0, 203));
        EDGES.sentence("A TEST: more than 9999, by what divides them all no more");
        x = Edges.ruled("learn 0;right 5;end 0;");
        x.pupil(PUPIL, 0);
        x.weigh(0, 12345);
        for (int i = 0; i < 5; i++) {
            due("test(0, 500) " + i, x.test(0, 500), 0);
            weights("test(0, 500) " + i, x, 0, 5, 4, 3, 2, 1);
        }
    }

    /** One whose weights come to 147 1845 5634 2374 by two right weeks. */
    private static MovesUp tenThousand() {
        MovesUp x = Edges.ruled("learn 9;right 7-2*step;end 0;");
        x.pupil(TIMED, 0);
        x.weigh(0, 7593);
        return x;
    }

    // ---- cut

    private static MovesUp cuttable() {
        MovesUp x = Edges.usual();
        Edges.row(x, 0, 0, 5, 5, 9, 1, 1, 4, 0, 99, 2, 3);
        return x;
    }

    private static void cutsNumbers() {
        EDGES.sentence("cut: (n 1 .. 10): BAD: n");
        for (int n : new int[] {-1, 0, 11, 12, MAX, MIN}) {
            EDGES.refused(EdgeYearTest::cuttable, "cut(" + n + ", 0, 0)", BAD, y -> y.cut(n, 0, 0));
            EDGES.refused(EdgeYearTest::cuttable, "cut(" + n + ", 2, 0), missing", BAD, y -> y.cut(n, 2, 0));
        }
        EDGES.sentence("cut: BAD: SHEET");
        for (int sheet : new int[] {-1, 4, 5, MAX, MIN}) {
            EDGES.refused(EdgeYearTest::cuttable, "cut(1, " + sheet + ", 0)", BAD, y -> y.cut(1, sheet, 0));
        }
        EDGES.sentence("cut: the sum (what 0), the ends (1): BAD: what");
        for (int what : new int[] {-1, 2, 3, MAX, MIN}) {
            EDGES.refused(EdgeYearTest::cuttable, "cut(1, 0, " + what + ")", BAD, y -> y.cut(1, 0, what));
            EDGES.refused(EdgeYearTest::cuttable, "cut(1, 2, " + what + "), missing", BAD, y -> y.cut(1, 2, what));
        }
        EDGES.sentence("cut: -11 nothing where something is asked");
        EDGES.refused(EdgeYearTest::cuttable, "cut(1, 2, 0)", NOTHING, y -> y.cut(1, 2, 0));
        EDGES.refused(EdgeYearTest::cuttable, "cut(10, 2, 1)", NOTHING, y -> y.cut(10, 2, 1));
        EDGES.onlyAsks(EdgeYearTest::cuttable, "cut", y -> y.cut(3, 0, 0) + y.cut(10, 0, 1));
    }

    private static void cutsRow() {
        EDGES.sentence("CUT: a row of 1 to 10 steps: BAD: its size");
        EDGES.refused(() -> rowed(0), "cut of an empty row", BAD, y -> y.cut(1, 2, 0));
        EDGES.refused(() -> rowed(0, new int[11]), "cut of 11", BAD, y -> y.cut(1, 2, 0));
        EDGES.refused(() -> rowed(0, new int[40]), "cut of a full row", BAD, y -> y.cut(10, 2, 0));
        due("cut of 10", rowed(0, new int[10]).cut(1, 2, 1), 512);
        due("cut of 1", rowed(0, new int[1]).cut(1, 2, 1), 1);
        EDGES.sentence("CUT: hours (0 .. 99): BAD: a number");
        for (int hours : new int[] {-1, 100, 127, MAX, MIN}) {
            for (int at = 0; at < 3; at++) {
                int[] row = new int[3];
                row[at] = hours;
                EDGES.refused(() -> rowed(2, row), "cut of " + hours + " at " + at, BAD, y -> y.cut(2, 2, 0));
            }
        }
        due("cut of 99", rowed(2, 99, 0, 99).cut(3, 2, 0), 2 * 9801);
        due("cut of 99 as bytes", rowed(0, 99, 0, 99).cut(1, 2, 0), 198 * 198);
        due("cut of 200 as bytes", rowed(0, 200).cut(1, 2, 0), BAD);
        due("cut of 256 as bytes", rowed(0, 256).cut(1, 2, 0), 0);
        due("cut of the most", rowed(1, 99, 99, 99, 99, 99, 99, 99, 99, 99, 99).cut(1, 2, 0), 980100);
    }

    private static void cutsOfTooFew() {
        EDGES.sentence("CUT: NONE: fewer steps than n");
        for (int size = 1; size <= 10; size++) {
            MovesUp x = rowed(0, new int[size]);
            for (int n = 1; n <= 10; n++) {
                due("cut(" + n + ") of " + size, x.cut(n, 2, 0), n > size ? NONE : 0);
                due("cut(" + n + ") of " + size + ", ends", x.cut(n, 2, 1) == NONE ? 1 : 0, n > size ? 1 : 0);
            }
        }
        EDGES.refused(() -> rowed(0, 1, 2), "cut(3, 2, 0) of 2", NONE, y -> y.cut(3, 2, 0));
        EDGES.refused(() -> rowed(0, 1, 2), "cut(3, 2, 1) of 2", NONE, y -> y.cut(3, 2, 1));
        EDGES.sentence("cut: BAD: its size, a number; NONE");
        EDGES.refused(() -> rowed(0), "cut(1, 2, 0) of an empty row", BAD, y -> y.cut(1, 2, 0));
        EDGES.refused(() -> rowed(2, 1, 100), "cut(3, 2, 0) of 2, one too long", BAD, y -> y.cut(3, 2, 0));
        EDGES.refused(() -> rowed(2, -1), "cut(10, 2, 0) of 1, below 0", BAD, y -> y.cut(10, 2, 0));
    }

    private static void cutsOfLikeOnes() {
        EDGES.sentence("CUT: of like ones the least as bits");
        for (int size = 1; size <= 10; size++) {
            MovesUp x = rowed(0, new int[size]);
            for (int n = 1; n <= size; n++) {
                due("cut(" + n + ") of " + size + " by 0", x.cut(n, 2, 1), (1 << n - 1) - 1 | 1 << size - 1);
            }
        }
        due("1 2 1 into 2", rowed(0, 1, 2, 1).cut(2, 2, 1), 5);
        due("2 1 2 into 2", rowed(0, 2, 1, 2).cut(2, 2, 1), 5);
        due("0 0 3 into 2", rowed(0, 0, 0, 3).cut(2, 2, 1), 5);
        due("3 0 0 into 2", rowed(0, 3, 0, 0).cut(2, 2, 1), 5);
        due("0 3 3 0 into 2", rowed(0, 0, 3, 3, 0).cut(2, 2, 1), 10);
        due("0 3 0 3 0 into 2", rowed(0, 0, 3, 0, 3, 0).cut(2, 2, 1), 18);
        due("0 3 0 3 0 into 3", rowed(0, 0, 3, 0, 3, 0).cut(3, 2, 1), 19);
    }

    private static void cutsEnds() {
        EDGES.sentence("CUT: the ends (bits: behind which step one ends; the last one too)");
        int[] row = {1, 2, 3, 4, 5, 6, 7, 8, 9, 10};
        MovesUp x = rowed(0, row);
        due("into 1", x.cut(1, 2, 1), 512);
        due("into 1, the sum", x.cut(1, 2, 0), 3025);
        due("into 10", x.cut(10, 2, 1), 1023);
        due("into 10, the sum", x.cut(10, 2, 0), 385);
        // 28 and 27 hours
        due("into 2", x.cut(2, 2, 1), 64 + 512);
        due("into 2, the sum", x.cut(2, 2, 0), 28 * 28 + 27 * 27);
        EDGES.sentence("CUT: one behind the other, some steps each");
        x = rowed(0, 0, 0, 9, 0, 0);
        due("into 3", x.cut(3, 2, 1), 1 + 2 + 16);
        due("into 3, the sum", x.cut(3, 2, 0), 81);
        due("into 5, the sum", x.cut(5, 2, 0), 81);
    }

    // ---- image, back, count

    private static void noImage() {
        EDGES.sentence("back: STATE: there is none");
        EDGES.refused(MovesUp::new, "back()", STATE, MovesUp::back);
        EDGES.refused(() -> still(11, 22), "back() of two", STATE, MovesUp::back);
        EDGES.sentence("image: of no PUPILS is one, too");
        MovesUp x = new MovesUp();
        due("image()", x.image(), 0);
        due("back()", x.back(), 0);
        x.pupil(PUPIL, 200);
        due("back() behind a pupil", x.back(), 1);
        due("class of it", x.told(0, 1), 2);
    }

    private static void image() {
        EDGES.sentence("image: how many PUPILS");
        MovesUp x = new MovesUp();
        for (int i = 1; i <= 8; i++) {
            x.pupil(PUPIL, 0);
            due("image() of " + i, x.image(), i);
        }
        due("back() of 8", x.back(), 8);
        EDGES.sentence("AN IMAGE keeps WEIGHTS, CLASSES of all PUPILS, THE RULE");
        x = Edges.ruled("learn 0;right 5;end 0;");
        for (int i = 0; i < 8; i++) {
            x.pupil(TIMED, 1);
            x.weigh(i, 1 + i);
        }
        x.image();
        for (int i = 0; i < 8; i++) {
            x.test(i, 500);
            x.weigh(i, 99999);
        }
        x.force(0);
        due("classes ahead of back()", x.count(5), 32);
        due("back()", x.back(), 8);
        for (int i = 0; i < 8; i++) {
            weights("back()", x, i, 1 + i, 0, 0, 0, 0);
            due("class of " + i, x.told(i, 1), 0);
        }
        due("the rule", x.count(3), 1);
        EDGES.sentence("AN IMAGE keeps WEIGHTS of each STEP");
        x.weigh(0, 98765);
        x.image();
        x.weigh(0, 11111);
        x.back();
        weights("back()", x, 0, 5, 6, 7, 8, 9);
        EDGES.sentence("back: THE IMAGE stays, for another back()");
        x.weigh(3, 7);
        due("back() again", x.back(), 8);
        due("weight", x.told(3, 4), 4);
        EDGES.sentence("image: another one takes its place");
        x.weigh(3, 7);
        x.test(2, 200);
        x.force(0);
        due("image()", x.image(), 8);
        x.weigh(3, 8);
        x.weigh(2, 9);
        x.force(1);
        due("back() to it", x.back(), 8);
        due("weight of 3", x.told(3, 4), 7);
        due("class of 2", x.told(2, 1), 2);
        due("weight of 2", x.told(2, 4), 1);
        due("the rule then", x.count(3), 0);
    }

    private static void since() {
        EDGES.sentence("(PUPILS that came since stay as they are)");
        MovesUp x = new MovesUp();
        x.pupil(PUPIL, 300);
        x.image();
        x.pupil(PUPIL, 100);
        x.weigh(0, 5);
        x.weigh(1, 22);
        due("back()", x.back(), 2);
        weights("that was there", x, 0, 1, 0, 0, 0, 0);
        weights("that came since", x, 1, 2, 2, 0, 0, 0);
        due("its class", x.told(1, 1), 1);
        EDGES.sentence("AN IMAGE keeps no more: texts, the tape, sheets are as they were ahead of back()");
        x.image();
        Edges.put(x, "learn 0;right 0;end 3;");
        x.text();
        x.force(1);
        Edges.put(x, "learn 0;right 0;end 4;");
        Edges.row(x, 0, 2, 6, 7);
        due("back()", x.back(), 2);
        due("texts", x.count(1), 2);
        due("the tape", x.count(2), 22);
        due("the rule", x.count(3), 0);
        due("the sheet", x.cut(1, 0, 0), 169);
        due("text()", x.text(), 2);
        x.force(1);
        due("text 1", x.says(0, 0, 2), 3);
        x.force(2);
        due("text 2", x.says(0, 0, 2), 4);
    }

    private static void count() {
        EDGES.sentence("count: BAD");
        for (int what : new int[] {-1, 6, 7, MAX, MIN}) {
            EDGES.refused(Edges::usual, "count(" + what + ")", BAD, y -> y.count(what));
        }
        EDGES.sentence("count: of all that is full");
        int[] want = {8, 6, 160, 3, 332, 13};
        MovesUp x = Edges.full();
        for (int what = 0; what < want.length; what++) {
            due("count(" + what + ")", x.count(what), want[what]);
        }
    }
}
