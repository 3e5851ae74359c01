/**
 * What the tests of edges share: the sentence of the document that is tested, objects to begin from,
 * and whether a refused call changed anything that can be seen.
 */
final class Edges {
    static final int BAD = -2, STATE = -3, FULL = -4, NONE = -1, NO_SUCH = -5;
    static final int NOTHING = -11, OUTSIDE = -12, UNLIKE = -13, BELOW_ZERO = -14;
    static final long NO = -4611686018427387904L;
    static final int MIN = Integer.MIN_VALUE, MAX = Integer.MAX_VALUE;

    interface Call {
        long answer(MovesUp x);
    }

    interface Start {
        MovesUp made();
    }

    private final Checks checks = new Checks();
    private String sentence = "";
    private int sentences = 0;

    /** Names the words of the document that the next checks are for. */
    void sentence(String words) {
        sentence = words;
        sentences++;
    }

    void due(String call, long got, long want) {
        checks.due("[" + sentence + "] " + call, got, want);
    }

    /** A fraction: above and below the line. */
    void due(String call, long above, long below, long wantAbove, long wantBelow) {
        due(call + " above", above, wantAbove);
        due(call + " below", below, wantBelow);
    }

    /** A call that is refused, on an object made anew: twice the same answer, and nothing that can be seen is changed. */
    void refused(Start start, String call, long want, Call asked) {
        MovesUp x = start.made();
        due(call, asked.answer(x), want);
        due(call + ", again", asked.answer(x), want);
        same(call, x, start.made());
    }

    /** Calls that only ask change nothing that can be seen. */
    void onlyAsks(Start start, String calls, Call asked) {
        MovesUp x = start.made();
        long answer = asked.answer(x);
        due(calls + ", again", asked.answer(x), answer);
        same(calls, x, start.made());
    }

    private void same(String call, MovesUp x, MovesUp untouched) {
        checks.same("[" + sentence + "] what is seen behind " + call, seen(x), seen(untouched));
    }

    void end(String name) {
        System.out.print(sentences + " sentences; ");
        checks.end(name);
    }

    // ---- objects to begin from

    static int put(MovesUp x, String s) {
        int size = x.count(2);
        for (int i = 0; i < s.length(); i++) {
            size = x.feed(1, s.charAt(i));
        }
        return size;
    }

    static void row(MovesUp x, int sheet, int sort, int... items) {
        x.sheet(sheet, sort, items.length);
        for (int i = 0; i < items.length; i++) {
            x.cell(sheet, i, items[i]);
        }
    }

    /** A new object with one text more, which is the rule. */
    static MovesUp ruled(String text) {
        MovesUp x = new MovesUp();
        put(x, text);
        x.force(x.text());
        return x;
    }

    /** Six pupils, one of each kind; an image that differs from what is; a text on the tape; rows and a missing one. */
    static MovesUp usual() {
        MovesUp x = ruled("learn 4;right 3+step;end 5*step+class;");
        for (int i = 0; i < 6; i++) {
            x.pupil(i, 100 * (i % 5) + 10 * (i % 4) + i + 2);
            x.weigh(i, 11111 * (i + 1) - i);
        }
        x.image();
        for (int i = 0; i < 6; i++) {
            x.weigh(i, 12345 + i);
        }
        x.test(0, 101);
        x.force(0);
        row(x, 0, 0, 7, 21, 3, 40, 5, 6);
        row(x, 1, 1, 0, 99, 2, 13, 4, 55, 60, 70);
        row(x, 3, 2, 1, 2, 4, 8, 16);
        put(x, "learn 3;right 4;end 56;");
        return x;
    }

    /** Eight pupils, six texts, a full tape, a full row. */
    static MovesUp full() {
        MovesUp x = new MovesUp();
        for (int i = 0; i < 8; i++) {
            x.pupil(i % 6, 100 * (i % 5) + i);
            x.weigh(i, 99999 - i);
        }
        for (int i = 1; i < 6; i++) {
            put(x, "learn 1;right 2;end " + i + ";");
            x.text();
        }
        x.force(3);
        x.image();
        put(x, "learn 3;right 4;end 56;" + " ".repeat(137));
        x.sheet(0, 2, 40);
        for (int i = 0; i < 40; i++) {
            x.cell(0, i, i);
        }
        return x;
    }

    // ---- all that can be seen

    /** All that can be seen of an object; it is used up by it. */
    static String seen(MovesUp x) {
        StringBuilder all = new StringBuilder();
        numbers(all, x);
        ways(all, x);
        rows(all, x);
        for (int text = 0; text < 6; text++) {
            all.append("text ").append(text).append(':').append(x.force(text));
            says(all, x);
        }
        int text = x.text();
        all.append("tape:").append(text).append(' ').append(x.count(1)).append(' ').append(x.force(text));
        says(all, x);
        all.append("back:").append(x.back());
        numbers(all, x);
        return all.toString();
    }

    private static void numbers(StringBuilder all, MovesUp x) {
        for (int what = 0; what < 6; what++) {
            all.append(x.count(what)).append(',');
        }
        for (int pupil = 0; pupil < 8; pupil++) {
            for (int what = 0; what < 9; what++) {
                all.append(x.told(pupil, what)).append(' ');
            }
            all.append(x.taken(pupil, 0)).append(';');
        }
    }

    private static void ways(StringBuilder all, MovesUp x) {
        for (int pupil = 0; pupil < 8; pupil++) {
            all.append(x.moves(pupil, 310, 0)).append(' ').append(x.moves(pupil, 303, 1)).append(' ');
            all.append(x.likely(pupil, 202, 0)).append('/').append(x.likely(pupil, 202, 1)).append(' ');
            all.append(x.thought(pupil, 101, 2, 0)).append('/').append(x.thought(pupil, 101, 2, 1)).append(' ');
            all.append(x.mean(pupil, 0)).append('/').append(x.mean(pupil, 1)).append(';');
        }
        says(all, x);
    }

    private static void says(StringBuilder all, MovesUp x) {
        for (int key = 0; key < 3; key++) {
            for (int where : new int[] {0, 123, 235, 345}) {
                all.append(x.says(where, 12, key)).append(' ');
            }
        }
        all.append(';');
    }

    /** Sheet 3 is read by cuts alone, as the others' items are then copied to it one by one. */
    private static void rows(StringBuilder all, MovesUp x) {
        for (int sheet = 0; sheet < 4; sheet++) {
            all.append("sheet ").append(sheet).append(" size ").append(size(x, sheet)).append(" sort ");
            for (int sort = 0; sort < 3; sort++) {
                all.append(x.pupils(sheet, sort, 0, 0)).append(' ');
            }
        }
        for (int n = 1; n < 11; n++) {
            all.append(x.cut(n, 3, 0)).append(' ').append(x.cut(n, 3, 1)).append(' ');
        }
        for (int sheet = 0; sheet < 3; sheet++) {
            for (int i = 0; i < size(x, sheet); i++) {
                all.append(item(x, sheet, i, 3)).append(' ');
            }
        }
        all.append(';');
    }

    /** How many items a sheet has; -1 if it is missing. */
    static int size(MovesUp x, int sheet) {
        int size = -1;
        while (size < 50 && x.copy(sheet, size + 1, sheet, size + 1, 0) == 0) {
            size++;
        }
        return size;
    }

    /** The square of an item of 0 to 99, BAD for another; a free sheet is used for it. */
    static int item(MovesUp x, int sheet, int i, int free) {
        for (int sort = 0; sort < 3; sort++) {
            if (x.pupils(sheet, sort, 0, 0) == 0) {
                x.sheet(free, sort, 1);
            }
        }
        x.copy(sheet, i, free, 0, 1);
        return x.cut(1, free, 0);
    }
}
