/** Edges of promises 22 to 26: rows of numbers, empty, full and missing, and pupils who are taken for others. */
public final class EdgeHostTest {
    private static final int BAD = Edges.BAD, NOTHING = Edges.NOTHING, OUTSIDE = Edges.OUTSIDE, UNLIKE = Edges.UNLIKE;
    private static final int BELOW_ZERO = Edges.BELOW_ZERO, MIN = Edges.MIN, MAX = Edges.MAX;
    private static final int BYTES = 0, SHORTS = 1, INTS = 2;
    private static final int[] NO_SHEETS = {-1, 4, 5, MAX, MIN};
    private static final Edges EDGES = new Edges();

    public static void main(String[] args) {
        sheetsNumbers();
        sheetsSize();
        missing();
        sheetAnew();
        cellsNumbers();
        cellsPlace();
        cellsBits();
        copysNumbers();
        copysPlace();
        copyOfRows();
        copyWithin();
        pupilsNumbers();
        pupilsPlace();
        pupilsAhead();
        pupilsLeftOut();
        pupilsSorts();
        taken();
        takenUnder();
        EDGES.end("EdgeHostTest");
    }

    private static void due(String call, long got, long want) {
        EDGES.due(call, got, want);
    }

    /** The items of a sheet, by their squares; BAD for one that is not 0 .. 99. */
    private static void items(String call, MovesUp x, int sheet, int... want) {
        due(call + ", size", Edges.size(x, sheet), want.length);
        for (int i = 0; i < want.length; i++) {
            due(call + ", item " + i, Edges.item(x, sheet, i, 3), want[i] < 0 || want[i] > 99 ? BAD : want[i] * want[i]);
        }
    }

    private static MovesUp rowed(int sheet, int sort, int... items) {
        MovesUp x = Edges.usual();
        Edges.row(x, sheet, sort, items);
        return x;
    }

    // ---- sheet

    private static void sheetsNumbers() {
        EDGES.sentence("sheet: BAD: no such SHEET");
        for (int sheet : NO_SHEETS) {
            EDGES.refused(Edges::usual, "sheet(" + sheet + ", 0, 1)", BAD, y -> y.sheet(sheet, 0, 1));
            EDGES.refused(Edges::usual, "sheet(" + sheet + ", 0, -1)", BAD, y -> y.sheet(sheet, 0, -1));
            EDGES.refused(Edges::usual, "sheet(" + sheet + ", -1, 0)", BAD, y -> y.sheet(sheet, -1, 0));
        }
        EDGES.sentence("sheet: BAD: sort (-1, 0, 1, 2)");
        for (int sort : new int[] {-2, 3, 4, MAX, MIN}) {
            EDGES.refused(Edges::usual, "sheet(0, " + sort + ", 1)", BAD, y -> y.sheet(0, sort, 1));
            EDGES.refused(Edges::usual, "sheet(0, " + sort + ", -1)", BAD, y -> y.sheet(0, sort, -1));
        }
        for (int sheet = 0; sheet < 4; sheet++) {
            for (int sort = -1; sort < 3; sort++) {
                due("sheet(" + sheet + ", " + sort + ", 1)", Edges.usual().sheet(sheet, sort, 1), 1);
            }
        }
    }

    private static void sheetsSize() {
        EDGES.sentence("sheet: BAD: n above 40");
        for (int sort = 0; sort < 3; sort++) {
            int sorted = sort;
            for (int n : new int[] {41, 42, 100, 65536, MAX}) {
                EDGES.refused(Edges::usual, "sheet(0, " + sort + ", " + n + ")", BAD, y -> y.sheet(0, sorted, n));
            }
        }
        EDGES.sentence("sheet: -14 a size below 0");
        for (int sort = 0; sort < 3; sort++) {
            int sorted = sort;
            for (int n : new int[] {-1, -2, -40, -41, MIN}) {
                EDGES.refused(Edges::usual, "sheet(0, " + sort + ", " + n + ")", BELOW_ZERO, y -> y.sheet(0, sorted, n));
            }
        }
        EDGES.sentence("sheet: a row of n: of 0, 1, 39, 40");
        for (int n : new int[] {0, 1, 39, 40}) {
            for (int sort = 0; sort < 3; sort++) {
                MovesUp x = new MovesUp();
                due("sheet(2, " + sort + ", " + n + ")", x.sheet(2, sort, n), 1);
                due("its size", Edges.size(x, 2), n);
                due("its sort", x.pupils(2, sort, 0, 0), 0);
                due("no other sort", x.pupils(2, (sort + 1) % 3, 0, 0), UNLIKE);
                due("its last", x.cell(2, n - 1, 1), n == 0 ? OUTSIDE : 1);
                due("behind its last", x.cell(2, n, 1), OUTSIDE);
            }
        }
    }

    private static void missing() {
        EDGES.sentence("sheet: or missing (sort -1: n does not matter)");
        for (int n : new int[] {0, 1, 40, 41, -1, MAX, MIN}) {
            MovesUp x = rowed(2, INTS, 1, 2);
            due("sheet(2, -1, " + n + ")", x.sheet(2, -1, n), 1);
            due("cell of it", x.cell(2, 0, 1), NOTHING);
            due("copy of it", x.copy(2, 0, 2, 0, 0), NOTHING);
            due("cut of it", x.cut(1, 2, 0), NOTHING);
            due("room by it", x.room(1, 1, 2), NOTHING);
            due("pupils by it", x.pupils(2, INTS, 0, 0), NOTHING);
            due("missing again", x.sheet(2, -1, n), 1);
            due("a row again", x.sheet(2, BYTES, 1), 1);
            items("a row again", x, 2, 0);
        }
    }

    private static void sheetAnew() {
        EDGES.sentence("sheet: a row of n of a sort, all 0: also where a row was");
        for (int sort = 0; sort < 3; sort++) {
            MovesUp x = rowed(1, SHORTS, 7, 8, 9, 10, 11, 12);
            due("sheet(1, " + sort + ", 4)", x.sheet(1, sort, 4), 1);
            items("of 4", x, 1, 0, 0, 0, 0);
            due("sheet(1, " + sort + ", 6)", x.sheet(1, sort, 6), 1);
            items("of 6", x, 1, 0, 0, 0, 0, 0, 0);
        }
        EDGES.sentence("sheet: the others stay");
        MovesUp x = rowed(1, SHORTS, 7, 8);
        Edges.row(x, 2, SHORTS, 9);
        x.sheet(0, SHORTS, 3);
        items("sheet 1", x, 1, 7, 8);
        items("sheet 2", x, 2, 9);
    }

    // ---- cell

    private static void cellsNumbers() {
        EDGES.sentence("cell: BAD: no such SHEET");
        for (int sheet : NO_SHEETS) {
            EDGES.refused(Edges::usual, "cell(" + sheet + ", 0, 1)", BAD, y -> y.cell(sheet, 0, 1));
            EDGES.refused(Edges::usual, "cell(" + sheet + ", -1, 1)", BAD, y -> y.cell(sheet, -1, 1));
        }
        EDGES.sentence("cell: -11; -12");
        for (int i : new int[] {0, -1, 1, 40, MAX, MIN}) {
            EDGES.refused(Edges::usual, "cell(2, " + i + ", 1) of a missing one", NOTHING, y -> y.cell(2, i, 1));
        }
    }

    private static void cellsPlace() {
        EDGES.sentence("cell: -12 a place outside");
        for (int i : new int[] {-1, -2, 6, 7, 39, 40, 41, MAX, MIN}) {
            EDGES.refused(Edges::usual, "cell(0, " + i + ", 1) of 6", OUTSIDE, y -> y.cell(0, i, 1));
        }
        for (int i : new int[] {-1, 40, 41, MAX, MIN}) {
            EDGES.refused(Edges::full, "cell(0, " + i + ", 1) of a full row", OUTSIDE, y -> y.cell(0, i, 1));
        }
        for (int i : new int[] {-1, 0, 1}) {
            EDGES.refused(() -> rowed(2, INTS), "cell(2, " + i + ", 1) of an empty row", OUTSIDE, y -> y.cell(2, i, 1));
        }
        EDGES.sentence("cell: Item i becomes v, no other");
        for (int i = 0; i < 6; i++) {
            MovesUp x = rowed(0, SHORTS, 1, 2, 3, 4, 5, 6);
            int[] want = {1, 2, 3, 4, 5, 6};
            want[i] = 77;
            due("cell(0, " + i + ", 77)", x.cell(0, i, 77), 1);
            items("cell(0, " + i + ", 77)", x, 0, want);
        }
        MovesUp x = Edges.full();
        due("cell(0, 39, 5), the last of a full row", x.cell(0, 39, 5), 1);
        due("what it is", Edges.item(x, 0, 39, 3), 25);
    }

    /** What an item is once it has been given a value; BAD if it is not 0 .. 99. */
    private static void becomes(int sort, int v, int want) {
        MovesUp x = rowed(2, sort, 50);
        due("cell(2, 0, " + v + ") of sort " + sort, x.cell(2, 0, v), 1);
        items("cell(2, 0, " + v + ") of sort " + sort, x, 2, want);
    }

    private static void cellsBits() {
        EDGES.sentence("cell: (of bytes its lowest 8 bits)");
        int[] bytes = {0, 7, 99, 256, 256 + 7, -256 + 99, 65536 + 99, MIN, MIN + 256 + 3, 512};
        int[] become = {0, 7, 99, 0, 7, 99, 99, 0, 3, 0};
        for (int i = 0; i < bytes.length; i++) {
            becomes(BYTES, bytes[i], become[i]);
        }
        for (int v : new int[] {100, 127, 128, 255, -1, -128, 256 + 100, 256 + 128, MAX}) {
            becomes(BYTES, v, BAD);
        }
        EDGES.sentence("cell: (of shorts its lowest 16 bits)");
        int[] shorts = {0, 7, 99, 65536, 65536 + 7, -65536 + 99, MIN, MIN + 65536 + 3};
        int[] are = {0, 7, 99, 0, 7, 99, 0, 3};
        for (int i = 0; i < shorts.length; i++) {
            becomes(SHORTS, shorts[i], are[i]);
        }
        for (int v : new int[] {100, 256, 256 + 7, 32767, 32768, 65535, -1, MAX, 65536 + 256}) {
            becomes(SHORTS, v, BAD);
        }
        EDGES.sentence("cell: of ints all");
        for (int v : new int[] {100, 256, 65536, 65536 + 7, -1, MIN, MAX}) {
            becomes(INTS, v, BAD);
        }
        becomes(INTS, 99, 99);
        EDGES.sentence("bytes, shorts, as Java's: the highest bit is a sign");
        MovesUp x = new MovesUp();
        Edges.row(x, 0, SHORTS, 0, 32768 + 100, 65535, 0, 0, 439);
        due("pupils by shorts", x.pupils(0, SHORTS, 0, 3), 1);
        due("who came", x.told(0, 1), 4);
        Edges.row(x, 0, BYTES, 0, 100, 0, 200, 0, 127);
        due("pupils by bytes", x.pupils(0, BYTES, 0, 3), 2);
        due("who came first", x.told(1, 1), 1);
        due("who came then", x.told(2, 3), 7);
    }

    // ---- copy

    private static void copysNumbers() {
        EDGES.sentence("copy: BAD: no such SHEET");
        for (int sheet : NO_SHEETS) {
            EDGES.refused(Edges::usual, "copy(" + sheet + ", 0, 0, 0, 1)", BAD, y -> y.copy(sheet, 0, 0, 0, 1));
            EDGES.refused(Edges::usual, "copy(0, 0, " + sheet + ", 0, 1)", BAD, y -> y.copy(0, 0, sheet, 0, 1));
            EDGES.refused(Edges::usual, "copy(2, 0, " + sheet + ", 0, -1)", BAD, y -> y.copy(2, 0, sheet, 0, -1));
            EDGES.refused(Edges::usual, "copy(" + sheet + ", 0, 2, 0, -1)", BAD, y -> y.copy(sheet, 0, 2, 0, -1));
        }
        EDGES.sentence("copy: -11; -13; -12");
        EDGES.refused(Edges::usual, "copy of a missing one", NOTHING, y -> y.copy(2, 0, 0, 0, 1));
        EDGES.refused(Edges::usual, "copy to a missing one", NOTHING, y -> y.copy(0, 0, 2, 0, 1));
        EDGES.refused(Edges::usual, "copy of a missing one to itself", NOTHING, y -> y.copy(2, 0, 2, 0, 0));
        EDGES.refused(Edges::usual, "copy of a missing one, outside", NOTHING, y -> y.copy(2, -1, 0, 99, -1));
        EDGES.refused(Edges::usual, "copy to a missing one, outside", NOTHING, y -> y.copy(0, 99, 2, -1, -1));
        EDGES.refused(Edges::usual, "copy of bytes to shorts", UNLIKE, y -> y.copy(0, 0, 1, 0, 1));
        EDGES.refused(Edges::usual, "copy of shorts to ints", UNLIKE, y -> y.copy(1, 0, 3, 0, 1));
        EDGES.refused(Edges::usual, "copy of ints to bytes", UNLIKE, y -> y.copy(3, 0, 0, 0, 1));
        EDGES.refused(Edges::usual, "copy of none, unlike", UNLIKE, y -> y.copy(0, 0, 1, 0, 0));
        EDGES.refused(Edges::usual, "copy, unlike, outside", UNLIKE, y -> y.copy(0, 99, 1, -1, 1));
        EDGES.refused(Edges::usual, "copy, unlike, n below 0", UNLIKE, y -> y.copy(0, 0, 1, 0, -1));
    }

    private static MovesUp twoRows() {
        MovesUp x = rowed(1, BYTES, 1, 2, 3, 4, 5);
        Edges.row(x, 2, BYTES, 6, 7, 8);
        return x;
    }

    private static void copysPlace() {
        EDGES.sentence("copy: -12 (also with n below 0)");
        int[][] outside = {{0, 0, -1}, {2, 2, -1}, {5, 3, -1}, {-1, 0, 1}, {0, -1, 1}, {-1, 0, 0}, {0, -1, 0}, {6, 0, 0},
            {0, 4, 0}, {5, 0, 1}, {0, 3, 1}, {3, 0, 3}, {0, 1, 3}, {0, 0, 4}, {0, 0, 6}, {-1, -1, 2}, {0, 0, MAX},
            {0, 0, MIN}, {MAX, 0, 1}, {0, MAX, 1}, {MIN, 0, 1}, {0, MIN, 1}, {MAX, MAX, MAX}, {MIN, MIN, MIN},
            {MAX, 0, 0}, {0, MAX, 0}, {1, 1, MAX}, {MAX, 1, MAX}, {1, MAX, MAX}, {MAX, 0, -1}, {0, MAX, -1},
            {MIN, 0, MIN}, {0, MIN, MIN}, {MIN, 0, MAX}, {0, MIN, MAX}, {MAX, MAX, 2}, {MIN, MIN, 0}};
        for (int[] o : outside) {
            String call = "copy(1, " + o[0] + ", 2, " + o[1] + ", " + o[2] + ")";
            EDGES.refused(EdgeHostTest::twoRows, call, OUTSIDE, y -> y.copy(1, o[0], 2, o[1], o[2]));
        }
        EDGES.sentence("copy: of an empty row");
        MovesUp x = rowed(1, BYTES);
        Edges.row(x, 2, BYTES, 6, 7, 8);
        due("none of it", x.copy(1, 0, 2, 3, 0), 0);
        due("none to it", x.copy(2, 3, 1, 0, 0), 0);
        due("one of it", x.copy(1, 0, 2, 0, 1), OUTSIDE);
        due("one to it", x.copy(2, 0, 1, 0, 1), OUTSIDE);
        due("none from 1 of it", x.copy(1, 1, 2, 0, 0), OUTSIDE);
        items("what is there", x, 2, 6, 7, 8);
        EDGES.sentence("copy: n: none, also from behind the last item");
        x = twoRows();
        due("none", x.copy(1, 0, 2, 0, 0), 0);
        due("none from the end to the end", x.copy(1, 5, 2, 3, 0), 0);
        items("what is there", x, 2, 6, 7, 8);
    }

    private static void copyOfRows() {
        EDGES.sentence("copy: n numbers of a SHEET, from item i on, come to another one's item j on: n");
        for (int n = 1; n <= 3; n++) {
            for (int i = 0; i + n <= 5; i++) {
                for (int j = 0; j + n <= 3; j++) {
                    MovesUp x = twoRows();
                    int[] want = {6, 7, 8};
                    for (int k = 0; k < n; k++) {
                        want[j + k] = 1 + i + k;
                    }
                    due("copy(1, " + i + ", 2, " + j + ", " + n + ")", x.copy(1, i, 2, j, n), n);
                    items("sheet 2 from " + i + " to " + j + " of " + n, x, 2, want);
                    items("sheet 1", x, 1, 1, 2, 3, 4, 5);
                }
            }
        }
        EDGES.sentence("copy: a full row");
        MovesUp x = Edges.full();
        x.sheet(1, INTS, 40);
        due("all of it", x.copy(0, 0, 1, 0, 40), 40);
        due("one more", x.copy(0, 0, 1, 0, 41), OUTSIDE);
        due("all from 1 on", x.copy(0, 1, 1, 0, 40), OUTSIDE);
        due("the last", Edges.item(x, 1, 39, 3), 39 * 39);
        EDGES.sentence("copy: of ints below 0 and above a short");
        x = rowed(1, INTS, -1, 65536, 7);
        Edges.row(x, 2, INTS, 0, 0, 0);
        due("copy(1, 0, 2, 0, 3)", x.copy(1, 0, 2, 0, 3), 3);
        items("as they were", x, 2, -1, 65536, 7);
    }

    private static void copyWithin() {
        EDGES.sentence("copy: (as they were): also within one SHEET");
        for (int n = 0; n <= 6; n++) {
            for (int i = 0; i + n <= 6; i++) {
                for (int j = 0; j + n <= 6; j++) {
                    MovesUp x = rowed(1, SHORTS, 1, 2, 3, 4, 5, 6);
                    int[] want = {1, 2, 3, 4, 5, 6};
                    for (int k = 0; k < n; k++) {
                        want[j + k] = 1 + i + k;
                    }
                    due("copy(1, " + i + ", 1, " + j + ", " + n + ")", x.copy(1, i, 1, j, n), n);
                    items("sheet 1 from " + i + " to " + j + " of " + n, x, 1, want);
                }
            }
        }
    }

    // ---- pupils

    private static void pupilsNumbers() {
        EDGES.sentence("pupils: BAD: no such SHEET");
        for (int sheet : NO_SHEETS) {
            EDGES.refused(Edges::usual, "pupils(" + sheet + ", 0, 0, 1)", BAD, y -> y.pupils(sheet, 0, 0, 1));
        }
        EDGES.sentence("pupils: BAD: sort (0, 1, 2)");
        for (int sort : new int[] {-1, -2, 3, MAX, MIN}) {
            EDGES.refused(Edges::usual, "pupils(0, " + sort + ", 0, 1)", BAD, y -> y.pupils(0, sort, 0, 1));
            EDGES.refused(Edges::usual, "pupils(2, " + sort + ", 0, 1), missing", BAD, y -> y.pupils(2, sort, 0, 1));
        }
        EDGES.sentence("pupils: BAD: n (0 .. 8)");
        for (int n : new int[] {-1, 9, 10, MAX, MIN}) {
            EDGES.refused(Edges::usual, "pupils(0, 0, 0, " + n + ")", BAD, y -> y.pupils(0, 0, 0, n));
            EDGES.refused(Edges::usual, "pupils(0, 1, 0, " + n + "), unlike", BAD, y -> y.pupils(0, 1, 0, n));
            EDGES.refused(Edges::usual, "pupils(2, 0, 0, " + n + "), missing", BAD, y -> y.pupils(2, 0, 0, n));
        }
        EDGES.sentence("pupils: -13; -11; -12");
        EDGES.refused(Edges::usual, "pupils by bytes as shorts", UNLIKE, y -> y.pupils(0, SHORTS, 0, 1));
        EDGES.refused(Edges::usual, "pupils by bytes as ints", UNLIKE, y -> y.pupils(0, INTS, 0, 1));
        EDGES.refused(Edges::usual, "pupils by shorts as bytes", UNLIKE, y -> y.pupils(1, BYTES, 0, 1));
        EDGES.refused(Edges::usual, "pupils by ints as shorts", UNLIKE, y -> y.pupils(3, SHORTS, 0, 1));
        EDGES.refused(Edges::usual, "no pupils, unlike", UNLIKE, y -> y.pupils(0, SHORTS, 0, 0));
        EDGES.refused(Edges::usual, "pupils, unlike, outside", UNLIKE, y -> y.pupils(0, SHORTS, -1, 8));
        for (int sort = 0; sort < 3; sort++) {
            int sorted = sort;
            EDGES.refused(Edges::usual, "pupils by a missing one", NOTHING, y -> y.pupils(2, sorted, 0, 1));
            EDGES.refused(Edges::usual, "no pupils by a missing one", NOTHING, y -> y.pupils(2, sorted, 0, 0));
            EDGES.refused(Edges::usual, "pupils by a missing one, outside", NOTHING, y -> y.pupils(2, sorted, -1, 8));
        }
    }

    private static void pupilsPlace() {
        EDGES.sentence("pupils: -12 a place outside");
        for (int from : new int[] {-1, -2, 5, 6, 7, 40, MAX, MAX - 1, MIN, MIN + 1}) {
            EDGES.refused(Edges::usual, "pupils(0, 0, " + from + ", 1) of 6", OUTSIDE, y -> y.pupils(0, 0, from, 1));
            EDGES.refused(Edges::usual, "pupils(0, 0, " + from + ", 8) of 6", OUTSIDE, y -> y.pupils(0, 0, from, 8));
        }
        EDGES.refused(() -> rowed(2, INTS), "pupils by an empty row", OUTSIDE, y -> y.pupils(2, INTS, 0, 1));
        EDGES.refused(() -> rowed(2, INTS, 0), "pupils by a row of one", OUTSIDE, y -> y.pupils(2, INTS, 0, 1));
        EDGES.refused(() -> rowed(2, INTS, 0, 0), "pupils by half a pair", OUTSIDE, y -> y.pupils(2, INTS, 1, 1));
        EDGES.refused(Edges::full, "pupils(0, 2, 39, 1) of a full row", OUTSIDE, y -> y.pupils(0, 2, 39, 1));
        EDGES.sentence("pupils: n of them (0 .. 8): none are asked for, none is outside");
        EDGES.onlyAsks(Edges::usual, "pupils(0, 0, 0, 0)", y -> y.pupils(0, 0, 0, 0));
        due("pupils(2, 2, 0, 0) of an empty row", rowed(2, INTS).pupils(2, INTS, 0, 0), 0);
        due("pupils(0, 0, 6, 0) of 6", Edges.usual().pupils(0, 0, 6, 0), 0);
        EDGES.sentence("pupils: up to the last item");
        MovesUp x = new MovesUp();
        x.sheet(0, INTS, 40);
        x.cell(0, 38, 5);
        x.cell(0, 39, 439);
        due("pupils(0, 2, 38, 1)", x.pupils(0, INTS, 38, 1), 1);
        due("its kind", x.told(0, 0), 5);
        due("its class", x.told(0, 1), 4);
        due("pupils(0, 2, 24, 8)", x.pupils(0, INTS, 24, 8), 7);
    }

    private static void pupilsAhead() {
        EDGES.sentence("pupils: -12: what stood ahead came");
        int[] row = {0, 100, 1, 201, 2, 302, 3};
        for (int n = 0; n <= 8; n++) {
            MovesUp x = new MovesUp();
            Edges.row(x, 0, SHORTS, row);
            due("pupils(0, 1, 0, " + n + ")", x.pupils(0, SHORTS, 0, n), n <= 3 ? n : OUTSIDE);
            due("count(0)", x.count(0), Math.min(3, n));
            for (int i = 0; i < 3; i++) {
                due("kind of " + i, x.told(i, 0), i < n ? i : Edges.NO_SUCH);
                due("class of " + i, x.told(i, 1), i < n ? 1 + i : Edges.NO_SUCH);
            }
        }
        EDGES.sentence("pupils: -12: what stood ahead came, others are left out");
        MovesUp x = new MovesUp();
        Edges.row(x, 0, SHORTS, 6, 0, 1, 201, 0, 40);
        due("pupils(0, 1, 0, 4)", x.pupils(0, SHORTS, 0, 4), OUTSIDE);
        due("count(0)", x.count(0), 1);
        due("its class", x.told(0, 1), 2);
        due("nothing ahead", x.pupils(0, SHORTS, 5, 1), OUTSIDE);
        due("below 0 nothing is ahead", x.pupils(0, SHORTS, -2, 3), OUTSIDE);
        due("count(0) still", x.count(0), 1);
        EDGES.sentence("pupils: -12, also where there are 8");
        due("full", Edges.full().pupils(0, INTS, 38, 2), OUTSIDE);
    }

    private static void pupilsLeftOut() {
        EDGES.sentence("pupils: (as of pupil()): how many came (others are left out)");
        MovesUp x = new MovesUp();
        Edges.row(x, 0, INTS, -1, 0, 6, 0, 0, -1, 0, 40, 0, 500, 5, 439, MAX, 0, 0, MIN);
        due("pupils(0, 2, 0, 8)", x.pupils(0, INTS, 0, 8), 1);
        due("count(0)", x.count(0), 1);
        due("who came", x.told(0, 3), 9);
        EDGES.sentence("pupils: no more than 8 there are");
        x = new MovesUp();
        x.pupil(0, 0);
        Edges.row(x, 0, INTS, 0, 1, 1, 2, 2, 3, 3, 4, 4, 5, 5, 6, 0, 7, 1, 8);
        due("pupils(0, 2, 0, 8)", x.pupils(0, INTS, 0, 8), 7);
        due("count(0)", x.count(0), 8);
        due("the last", x.told(7, 3), 7);
        due("pupils(0, 2, 0, 8), all there", x.pupils(0, INTS, 0, 8), 0);
        EDGES.refused(Edges::full, "pupils(0, 2, 0, 8), all there", 0, y -> y.pupils(0, INTS, 0, 8));
        EDGES.sentence("pupils: who comes is as of pupil(), with 1 of STEP 0 alone");
        x = new MovesUp();
        Edges.row(x, 0, INTS, 3, 215);
        due("pupils(0, 2, 0, 1)", x.pupils(0, INTS, 0, 1), 1);
        int[] want = {3, 2, 1, 5, 1, 0, 0, 0, 0};
        for (int what = 0; what < want.length; what++) {
            due("told(0, " + what + ")", x.told(0, what), want[what]);
        }
        EDGES.sentence("pupils: the SHEET stays");
        items("the row", x, 0, 3, 215);
    }

    private static void pupilsSorts() {
        EDGES.sentence("pupils: from one on, two by two");
        for (int from = 0; from < 6; from++) {
            for (int sort = 0; sort < 3; sort++) {
                MovesUp x = new MovesUp();
                Edges.row(x, 1, sort, 0, 1, 2, 3, 4, 5, 0, 1);
                int n = (8 - from) / 2;
                due("pupils(1, " + sort + ", " + from + ", " + n + ")", x.pupils(1, sort, from, n), n);
                for (int i = 0; i < n; i++) {
                    int at = from + 2 * i;
                    due("kind of " + i, x.told(i, 0), at % 6);
                    due("number of " + i, x.told(i, 3), (at + 1) % 6);
                }
            }
        }
    }

    // ---- taken

    private static void taken() {
        EDGES.sentence("taken: BAD: k (0 .. 5)");
        for (int k : new int[] {-1, 6, 7, MAX, MIN}) {
            EDGES.refused(Edges::usual, "taken(0, " + k + ")", BAD, y -> y.taken(0, k));
            EDGES.refused(Edges::usual, "taken(6, " + k + "), no such pupil", BAD, y -> y.taken(6, k));
        }
        EDGES.sentence("taken: -11: no such PUPIL");
        for (int pupil : new int[] {-1, 6, 7, 8, MAX, MIN}) {
            for (int k = 0; k < 6; k++) {
                int kind = k;
                EDGES.refused(Edges::usual, "taken(" + pupil + ", " + k + ")", NOTHING, y -> y.taken(pupil, kind));
            }
        }
        EDGES.refused(MovesUp::new, "taken(0, 0) of no pupils", NOTHING, y -> y.taken(0, 0));
        EDGES.sentence("taken: -13 a thing of another KIND");
        EDGES.refused(Edges::usual, "taken(0, 1)", UNLIKE, y -> y.taken(0, 1));
        EDGES.refused(Edges::usual, "taken(4, 5)", UNLIKE, y -> y.taken(4, 5));
        EDGES.onlyAsks(Edges::usual, "taken", y -> y.taken(5, 3) + y.taken(4, 0));
    }

    private static void takenUnder() {
        EDGES.sentence("taken: for one of KIND k, or one under that one (also by others between): its NUMBER");
        int[][] over = {{0}, {0, 1}, {0, 2}, {0, 3}, {0, 1, 4}, {0, 3, 5}};
        for (int kind = 0; kind < 6; kind++) {
            for (int number : new int[] {0, 9}) {
                MovesUp x = new MovesUp();
                x.pupil(kind, 310 + number);
                for (int k = 0; k < 6; k++) {
                    boolean is = false;
                    for (int one : over[kind]) {
                        is |= one == k;
                    }
                    due("taken: kind " + kind + " for " + k, x.taken(0, k), is ? number : UNLIKE);
                }
            }
        }
    }
}
