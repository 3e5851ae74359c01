import java.util.Arrays;

/** Pupils of kinds in classes: what is thought of the steps they stand on, and what moving them is worth. */
public final class MovesUp {
    public static final int NONE = -1, BAD = -2, STATE = -3, FULL = -4;
    public static final long NO = -4611686018427387904L;

    private static final int NO_SUCH = -5;
    private static final int NOTHING = -11, OUTSIDE = -12, UNLIKE = -13, BELOW_ZERO = -14;

    private static final int STEPS = 5, CLASSES = 5, WEEKS = 5, SORTS = 4, DIGITS = 10, KINDS = 6, KEYS = 3, NAMES = 6;
    private static final int MOST_PUPILS = 8, MOST_TEXTS = 6, MOST_TAPE = 160, MOST_SHEETS = 4, MOST_ITEMS = 40;
    private static final int MOST_ROW = 10, MOST_HOURS = 99, MOST_WEIGHTS = 9999;

    private static final int PLAIN = 0, TWICE = 1, TIMED = 2, SURE = 3, BACK = 4, CAREFUL = 5;
    private static final int[] PARENTS = {NONE, PLAIN, PLAIN, PLAIN, TWICE, SURE};

    private static final int LEARN = 0, RIGHT = 1, LAST = 2;
    private static final int MISSING = -1, BYTES = 0, SHORTS = 1, INTS = 2;

    private static final String FIRST_RULE =
        "learn 5 - ( class - step ) * ( class - step ) * 2 ; right 8 - class * 2 + step * 2 ; end step * 10 ;";

    private final Pupil[] roll = new Pupil[MOST_PUPILS];
    private int rollSize = 0;
    private final Text[] rules = new Text[MOST_TEXTS];
    private int rulesSize = 0;
    private int ruling = 0;
    private final byte[] tape = new byte[MOST_TAPE];
    private int tapeSize = 0;
    private final Row[] rows = new Row[MOST_SHEETS];
    private final Reader reader = new Reader(tape);
    private final Chances chances = new Chances();
    private final Course course = new Course(chances);
    private final long[] shares = new long[MOST_PUPILS];
    private boolean hasImage = false;
    private int imageSize = 0;
    private int imageRuling = 0;

    public MovesUp() {
        for (int i = 0; i < MOST_SHEETS; i++) {
            rows[i] = new Row();
        }
        for (int i = 0; i < FIRST_RULE.length() && i < MOST_TAPE; i++) {
            tape[i] = (byte) FIRST_RULE.charAt(i);
        }
        reader.read(FIRST_RULE.length());
        rules[0] = reader.made();
        rulesSize = 1;
    }

    // ---- pupils

    public int pupil(int kind, int rest) {
        if (kind < 0 || kind >= KINDS || rest < 0) {
            return BAD;
        }
        int itsClass = rest / 100;
        int itsSort = rest / 10 % 10;
        if (itsClass >= CLASSES || itsSort >= SORTS) {
            return BAD;
        }
        if (rollSize >= MOST_PUPILS) {
            return FULL;
        }
        roll[rollSize] = new Pupil(kind, itsClass, itsSort, rest % 10);
        rollSize++;
        return rollSize - 1;
    }

    public int weigh(int pupil, int digits) {
        Pupil his = known(pupil);
        if (his == null || digits <= 0 || digits > 99999) {
            return BAD;
        }
        int before = his.together();
        int left = digits;
        for (int s = 0; s < STEPS; s++) {
            his.weights[s] = left % 10;
            left /= 10;
        }
        return before;
    }

    public int told(int pupil, int what) {
        Pupil his = known(pupil);
        if (his == null) {
            return NO_SUCH;
        }
        switch (what) {
            case 0: return his.kind;
            case 1: return his.itsClass;
            case 2: return his.sort;
            case 3: return his.number;
            default: return what >= 4 && what < 4 + STEPS ? his.weights[what - 4] : NO_SUCH;
        }
    }

    // ---- texts

    public int feed(int n, long bytes) {
        if (n < 1 || n > 8) {
            return BAD;
        }
        if (tapeSize + n > MOST_TAPE) {
            return FULL;
        }
        for (int i = 0; i < n; i++) {
            tape[tapeSize] = (byte) (bytes >> (8 * i));
            tapeSize++;
        }
        return tapeSize;
    }

    public int text() {
        if (rulesSize >= MOST_TEXTS) {
            return FULL;
        }
        int fault = reader.read(tapeSize);
        tapeSize = 0;
        if (fault >= 0) {
            return -100 - fault;
        }
        rules[rulesSize] = reader.made();
        rulesSize++;
        return rulesSize - 1;
    }

    public int force(int text) {
        if (text < 0 || text >= rulesSize) {
            return BAD;
        }
        int before = ruling;
        ruling = text;
        return before;
    }

    public int says(int where, int who, int key) {
        if (where < 0 || who < 0 || key < 0 || key >= KEYS) {
            return BAD;
        }
        int step = where / 100;
        int itsClass = where / 10 % 10;
        int week = where % 10;
        if (step >= STEPS || itsClass >= CLASSES || week > WEEKS || who / 10 >= SORTS || who % 10 > WEEKS) {
            return BAD;
        }
        chances.rely(rules[ruling], ruling, who / 10);
        return chances.asks(key, step, itsClass, week, who % 10);
    }

    // ---- what is thought

    public long thought(int pupil, int marks, int step, int part) {
        Pupil his = known(pupil);
        if (his == null || !areMarks(marks) || step < 0 || step >= STEPS || !isPart(part)) {
            return NO;
        }
        follow(his, marks);
        int weeks = marks / 100;
        return lowest(course.weightsAt(weeks)[step], course.together(weeks), part);
    }

    public int moves(int pupil, int marks, int what) {
        Pupil his = known(pupil);
        if (his == null || !areMarks(marks) || what < 0 || what > 2) {
            return NO_SUCH;
        }
        follow(his, marks);
        int weeks = marks / 100;
        if (what == 0) {
            return course.classThen(weeks);
        }
        return what == 1 ? course.movedThen(weeks) : course.wish(weeks - 1);
    }

    public long likely(int pupil, int marks, int what) {
        Pupil his = known(pupil);
        if (his == null || !areMarks(marks) || what < 0 || what > 3) {
            return NO;
        }
        follow(his, marks);
        int weeks = marks / 100;
        if (what < 2) {
            return lowest(course.together(weeks), grown(course.together(0), weeks), what);
        }
        return lowest(course.fit(weeks), course.together(weeks), what - 2);
    }

    // ---- rules

    public long mean(int pupil, int what) {
        Pupil his = known(pupil);
        if (his == null || what < 0 || what > 7) {
            return NO;
        }
        start(his, his.kind, his.number, his.itsClass);
        long above;
        switch (what / 2) {
            case 0: above = course.ends(0); break;
            case 1: above = course.rights(0); break;
            case 2: above = course.best(0); break;
            default: above = course.best(0) - course.ends(0); break;
        }
        return lowest(above, grown(his.together(), WEEKS), what % 2);
    }

    public long off(int pupil, int by, int part) {
        Pupil his = known(pupil);
        if (his == null || by != 1 && by != -1 || !isPart(part)) {
            return NO;
        }
        long asIs = endsBy(his, his.kind, his.number, his.itsClass);
        long shifted = endsBy(his, his.kind, his.number, held(his.itsClass + by));
        return lowest(asIs - shifted, grown(his.together(), WEEKS), part);
    }

    public int rule(int pupil, int what) {
        Pupil his = known(pupil);
        if (his == null || what < 0 || what > 1) {
            return BAD;
        }
        int choices = what == 0 ? DIGITS : KINDS;
        int found = 0;
        long most = -1;
        for (int i = 0; i < choices; i++) {
            int kind = what == 0 ? his.kind : i;
            int number = what == 0 ? i : his.number;
            long ends = endsBy(his, kind, number, his.itsClass);
            if (ends > most) {
                most = ends;
                found = i;
            }
        }
        return found;
    }

    public int room(int pupils, int many, int sheet) {
        Row row = laid(sheet);
        if (pupils < 0 || pupils >= 1 << rollSize || many < 0 || many > MOST_PUPILS || row == null) {
            return BAD;
        }
        if (row.sort == MISSING) {
            return NOTHING;
        }
        if (row.size != rollSize) {
            return BAD;
        }
        for (int i = 0; i < rollSize; i++) {
            if (!areMarks(row.items[i])) {
                return BAD;
            }
        }
        for (int i = 0; i < rollSize; i++) {
            follow(roll[i], row.items[i]);
            shares[i] = course.share(row.items[i] / 100);
        }
        int chosen = 0;
        for (int i = 0; i < many && chosen != pupils; i++) {
            chosen |= 1 << likeliest(pupils & ~chosen);
        }
        return chosen;
    }

    public int summer(int pupil, int tenths) {
        Pupil his = known(pupil);
        if (his == null || tenths < 0 || tenths > 9) {
            return BAD;
        }
        // a row of the course is free here: who follows a course begins it anew
        long[] after = course.weightsAt(0);
        for (int s = 0; s < STEPS; s++) {
            long stay = s == 0 ? 10 : 10 - tenths;
            long come = s + 1 < STEPS ? his.weights[s + 1] : 0;
            after[s] = his.weights[s] * stay + come * tenths;
        }
        return his.takes(after) ? his.together() : STATE;
    }

    public int test(int pupil, int marks) {
        Pupil his = known(pupil);
        if (his == null || !areMarks(marks)) {
            return BAD;
        }
        follow(his, marks);
        int weeks = marks / 100;
        if (!his.takes(course.weightsAt(weeks))) {
            return STATE;
        }
        his.itsClass = course.classThen(weeks);
        return his.itsClass;
    }

    public int cut(int n, int sheet, int what) {
        Row hours = laid(sheet);
        if (n < 1 || n > MOST_ROW || hours == null || what < 0 || what > 1) {
            return BAD;
        }
        if (hours.sort == MISSING) {
            return NOTHING;
        }
        if (hours.size < 1 || hours.size > MOST_ROW || !hours.within(MOST_HOURS)) {
            return BAD;
        }
        if (hours.size < n) {
            return NONE;
        }
        int found = leastEnds(hours, n);
        return what == 0 ? hours.squares(found) : found;
    }

    public int image() {
        for (int i = 0; i < rollSize; i++) {
            roll[i].keep();
        }
        hasImage = true;
        imageSize = rollSize;
        imageRuling = ruling;
        return rollSize;
    }

    public int back() {
        if (!hasImage) {
            return STATE;
        }
        for (int i = 0; i < imageSize && i < rollSize; i++) {
            roll[i].lay();
        }
        ruling = imageRuling;
        return rollSize;
    }

    public int count(int what) {
        switch (what) {
            case 0: return rollSize;
            case 1: return rulesSize;
            case 2: return tapeSize;
            case 3: return ruling;
            case 4: return allWeights();
            case 5: return allClasses();
            default: return BAD;
        }
    }

    // ---- the host

    public int sheet(int sheet, int sort, int n) {
        Row row = laid(sheet);
        if (row == null || sort < MISSING || sort > INTS) {
            return BAD;
        }
        int size = sort == MISSING ? 0 : n;
        if (size > MOST_ITEMS) {
            return BAD;
        }
        if (size < 0) {
            return BELOW_ZERO;
        }
        row.becomes(sort, size);
        return 1;
    }

    public int cell(int sheet, int i, int v) {
        Row row = laid(sheet);
        if (row == null) {
            return BAD;
        }
        if (row.sort == MISSING) {
            return NOTHING;
        }
        if (i < 0 || i >= row.size) {
            return OUTSIDE;
        }
        row.items[i] = row.cutDown(v);
        return 1;
    }

    public int copy(int sheet, int i, int other, int j, int n) {
        Row from = laid(sheet);
        Row to = laid(other);
        if (from == null || to == null) {
            return BAD;
        }
        if (from.sort == MISSING || to.sort == MISSING) {
            return NOTHING;
        }
        if (from.sort != to.sort) {
            return UNLIKE;
        }
        if (n < 0 || i < 0 || j < 0 || i > from.size - n || j > to.size - n) {
            return OUTSIDE;
        }
        System.arraycopy(from.items, i, to.items, j, n);
        return n;
    }

    public int pupils(int sheet, int sort, int from, int n) {
        Row row = laid(sheet);
        if (row == null || sort < BYTES || sort > INTS || n < 0 || n > MOST_PUPILS) {
            return BAD;
        }
        // nothing may be taken for any sort
        if (row.sort != MISSING && row.sort != sort) {
            return UNLIKE;
        }
        if (row.sort == MISSING) {
            return NOTHING;
        }
        int came = 0;
        for (int k = 0; k < n; k++) {
            int ahead = 2 * k;
            if (from < 0 || from >= row.size - ahead - 1) {
                return OUTSIDE;
            }
            if (pupil(row.items[from + ahead], row.items[from + ahead + 1]) >= 0) {
                came++;
            }
        }
        return came;
    }

    public int taken(int pupil, int k) {
        if (k < 0 || k >= KINDS) {
            return BAD;
        }
        Pupil his = known(pupil);
        if (his == null) {
            return NOTHING;
        }
        return isUnder(his.kind, k) ? his.number : UNLIKE;
    }

    // ---- within

    /** The pupil of a number, null if there is none. */
    private Pupil known(int pupil) {
        return pupil >= 0 && pupil < rollSize ? roll[pupil] : null;
    }

    /** The row of a sheet, missing or not, null if there is no such sheet. */
    private Row laid(int sheet) {
        return sheet >= 0 && sheet < MOST_SHEETS ? rows[sheet] : null;
    }

    private static boolean isPart(int part) {
        return part == 0 || part == 1;
    }

    private static boolean areMarks(int marks) {
        return marks >= 0 && marks / 100 <= WEEKS && marks % 100 < 1 << (marks / 100);
    }

    private static int held(int itsClass) {
        return Math.max(0, Math.min(CLASSES - 1, itsClass));
    }

    /** Whether a kind is another one, or stands under it. */
    private static boolean isUnder(int kind, int other) {
        int now = kind;
        for (int i = 0; i < KINDS && now >= 0 && now < KINDS; i++) {
            if (now == other) {
                return true;
            }
            now = PARENTS[now];
        }
        return false;
    }

    /** Sets the course to where a pupil would begin in a class, moved by a kind and number. */
    private void start(Pupil his, int kind, int number, int itsClass) {
        chances.rely(rules[ruling], ruling, his.sort);
        course.begin(his.weights, itsClass, kind, number);
    }

    private void follow(Pupil his, int marks) {
        start(his, his.kind, his.number, his.itsClass);
        course.follow(marks / 100, marks % 100);
    }

    private long endsBy(Pupil his, int kind, int number, int itsClass) {
        start(his, kind, number, itsClass);
        return course.ends(0);
    }

    /** Of some pupils the first with the greatest share. */
    private int likeliest(int some) {
        int found = 0;
        long most = -1;
        for (int i = 0; i < rollSize; i++) {
            if ((some >> i & 1) == 1 && shares[i] > most) {
                most = shares[i];
                found = i;
            }
        }
        return found;
    }

    /** The first ends, as bits, that cut a row into n with the least squares. */
    private static int leastEnds(Row hours, int n) {
        int found = 0;
        int least = -1;
        for (int ends = 1 << (hours.size - 1); ends < 1 << hours.size; ends++) {
            if (Integer.bitCount(ends) != n) {
                continue;
            }
            int squares = hours.squares(ends);
            if (least < 0 || squares < least) {
                least = squares;
                found = ends;
            }
        }
        return found;
    }

    private int allWeights() {
        int sum = 0;
        for (int i = 0; i < rollSize; i++) {
            sum += roll[i].together();
        }
        return sum;
    }

    private int allClasses() {
        int sum = 0;
        for (int i = 0; i < rollSize; i++) {
            sum += roll[i].itsClass;
        }
        return sum;
    }

    /** All weights of all marks together are 100 times as many behind each week. */
    private static long grown(long all, int weeks) {
        long sum = all;
        for (int i = 0; i < weeks && i < WEEKS; i++) {
            sum *= 100;
        }
        return sum;
    }

    /** A part of a fraction in lowest terms; 0 by 1 if there is nothing above or below. */
    private static long lowest(long above, long below, int part) {
        if (above == 0 || below == 0) {
            return part == 0 ? 0 : 1;
        }
        long divisor = common(Math.abs(above), below);
        return divisor == 0 ? 0 : (part == 0 ? above : below) / divisor;
    }

    /** The greatest number that divides two; Euclid's way takes fewer than 100 turns for any longs. */
    private static long common(long one, long other) {
        long a = one;
        long b = other;
        for (int i = 0; i < 100 && b != 0; i++) {
            long rest = a % b;
            a = b;
            b = rest;
        }
        return a;
    }

    private static final class Pupil {
        private final int kind;
        private final int sort;
        private final int number;
        private int itsClass;
        private final int[] weights = new int[STEPS];
        private int imageClass = 0;
        private final int[] imageWeights = new int[STEPS];

        private Pupil(int kind, int itsClass, int sort, int number) {
            this.kind = kind;
            this.itsClass = itsClass;
            this.sort = sort;
            this.number = number;
            weights[0] = 1;
        }

        private int together() {
            int sum = 0;
            for (int s = 0; s < STEPS; s++) {
                sum += weights[s];
            }
            return sum;
        }

        /** Takes weights, each by what divides them all, if they come to something, and not to too much. */
        private boolean takes(long[] after) {
            long divisor = 0;
            long sum = 0;
            for (int s = 0; s < STEPS; s++) {
                divisor = common(divisor, after[s]);
                sum += after[s];
            }
            if (divisor == 0 || sum / divisor > MOST_WEIGHTS) {
                return false;
            }
            for (int s = 0; s < STEPS; s++) {
                weights[s] = (int) (after[s] / divisor);
            }
            return true;
        }

        private void keep() {
            imageClass = itsClass;
            System.arraycopy(weights, 0, imageWeights, 0, STEPS);
        }

        private void lay() {
            itsClass = imageClass;
            System.arraycopy(imageWeights, 0, weights, 0, STEPS);
        }
    }

    /** A row of numbers of a sort, or missing. */
    private static final class Row {
        private int sort = MISSING;
        private int size = 0;
        private final int[] items = new int[MOST_ITEMS];

        private void becomes(int newSort, int newSize) {
            sort = newSort;
            size = newSize;
            Arrays.fill(items, 0);
        }

        private int cutDown(int v) {
            if (sort == BYTES) {
                return (byte) v;
            }
            return sort == SHORTS ? (short) v : v;
        }

        private boolean within(int most) {
            for (int i = 0; i < size; i++) {
                if (items[i] < 0 || items[i] > most) {
                    return false;
                }
            }
            return true;
        }

        /** The squares of the sums between ends, together. */
        private int squares(int ends) {
            int squares = 0;
            int sum = 0;
            for (int i = 0; i < size; i++) {
                sum += items[i];
                if ((ends >> i & 1) == 1) {
                    squares += sum * sum;
                    sum = 0;
                }
            }
            return squares;
        }
    }

    /** A text that was read: for each key the signs that a stack works through, each behind what it joins. */
    private static final class Text {
        private final int[] code;
        private final int[] starts;

        private Text(int[] code, int[] starts) {
            this.code = code;
            this.starts = starts;
        }
    }

    /** Reads a text from the tape. A token is one number: a sign's byte, a word's place in WORDS, a number's worth. */
    private static final class Reader {
        private static final String WORDS = "learn right end or and not step class week sort moved left ";
        private static final int MOST_OPEN = 5, MOST_DIGITS = 4;
        private static final int WRONG = -1, END = 0, NEGATE = 1;
        // above the signs' bytes the words by their places, above these the numbers
        private static final int WORD = 256, OR = WORD + 3, AND = WORD + 4, NOT = WORD + 5, NAME = WORD + 6;
        private static final int NUMBER = 1000;

        private final byte[] bytes;
        private int size = 0;
        private int at = 0;
        private int token = END;
        private int place = 0;
        private int fault = NONE;
        private int open = 0;
        private final int[] code = new int[MOST_TAPE];
        private int length = 0;
        private final int[] starts = new int[KEYS + 1];

        private Reader(byte[] tape) {
            bytes = tape;
        }

        /** Reads the tape's first bytes as a text: the place of its fault, or NONE. */
        private int read(int tapeSize) {
            size = Math.min(tapeSize, bytes.length);
            at = 0;
            fault = NONE;
            open = 0;
            length = 0;
            advance();
            for (int key = 0; key < KEYS; key++) {
                take(WORD + key);
                starts[key] = length;
                readOr();
                take(';');
            }
            starts[KEYS] = length;
            take(END);
            return fault;
        }

        private Text made() {
            return new Text(Arrays.copyOf(code, length), starts.clone());
        }

        private void refuse() {
            if (fault == NONE) {
                fault = place;
            }
            token = WRONG;
        }

        private void take(int wanted) {
            if (token == wanted) {
                advance();
            } else {
                refuse();
            }
        }

        private void emit(int sign) {
            if (length < MOST_TAPE) {
                code[length] = sign;
                length++;
            }
        }

        /** Opens one more, unless as many as may are open. */
        private boolean opens() {
            if (open >= MOST_OPEN) {
                refuse();
                return false;
            }
            open++;
            advance();
            return true;
        }

        private void readOr() {
            readAnd();
            for (int i = 0; i < MOST_TAPE && token == OR; i++) {
                advance();
                readAnd();
                emit(OR);
            }
        }

        private void readAnd() {
            readNot();
            for (int i = 0; i < MOST_TAPE && token == AND; i++) {
                advance();
                readNot();
                emit(AND);
            }
        }

        private void readNot() {
            if (token == NOT) {
                if (opens()) {
                    readNot();
                    open--;
                    emit(NOT);
                }
                return;
            }
            readSum();
            if (token == '<' || token == '=') {
                int sign = token;
                advance();
                readSum();
                emit(sign);
            }
        }

        private void readSum() {
            readTerm();
            for (int i = 0; i < MOST_TAPE && (token == '+' || token == '-'); i++) {
                int sign = token;
                advance();
                readTerm();
                emit(sign);
            }
        }

        private void readTerm() {
            readOne();
            for (int i = 0; i < MOST_TAPE && token == '*'; i++) {
                advance();
                readOne();
                emit('*');
            }
        }

        private void readOne() {
            if (token >= NAME) {
                emit(token);
                advance();
            } else if (token == '-') {
                if (opens()) {
                    readOne();
                    open--;
                    emit(NEGATE);
                }
            } else if (token == '(') {
                if (opens()) {
                    readOr();
                    take(')');
                    open--;
                }
            } else {
                refuse();
            }
        }

        /** Goes on to the next token; behind a fault there is none. */
        private void advance() {
            if (fault != NONE) {
                return;
            }
            while (at < size && (bytes[at] == ' ' || bytes[at] == '\n')) {
                at++;
            }
            place = at;
            if (at >= size) {
                token = END;
            } else if (isLetter(bytes[at])) {
                token = word();
            } else if (isDigit(bytes[at])) {
                token = number();
            } else {
                token = isSign(bytes[at]) ? bytes[at] : WRONG;
                at++;
            }
        }

        private int word() {
            int start = at;
            while (at < size && isLetter(bytes[at])) {
                at++;
            }
            return spelt(start);
        }

        /** The word from a place on, if it is one of WORDS. */
        private int spelt(int start) {
            int found = WORD;
            int next = start;
            boolean alike = true;
            for (int i = 0; i < WORDS.length(); i++) {
                char c = WORDS.charAt(i);
                if (c == ' ') {
                    if (alike && next == at) {
                        return found;
                    }
                    found++;
                    next = start;
                    alike = true;
                } else if (alike && next < at && bytes[next] == c) {
                    next++;
                } else {
                    alike = false;
                }
            }
            return WRONG;
        }

        private int number() {
            int start = at;
            int worth = 0;
            while (at < size && isDigit(bytes[at])) {
                if (at - start < MOST_DIGITS) {
                    worth = worth * 10 + bytes[at] - '0';
                }
                at++;
            }
            return at - start > MOST_DIGITS ? WRONG : NUMBER + worth;
        }

        private static boolean isLetter(int b) {
            return b >= 'a' && b <= 'z';
        }

        private static boolean isDigit(int b) {
            return b >= '0' && b <= '9';
        }

        private static boolean isSign(int b) {
            return b == '(' || b == ')' || b == ';' || b == '+' || b == '-' || b == '*' || b == '<' || b == '=';
        }
    }

    /** What a rule says to pupils of a sort; what it said once is kept, as the best moving asks the same often. */
    private static final class Chances {
        private static final int TIMES = WEEKS + 1, PLACES = TIMES * TIMES * CLASSES * STEPS;

        private Text rule = null;
        private int ruleNumber = NONE;
        private int sort = NONE;
        private final byte[] said = new byte[KEYS * PLACES];
        private final int[] names = new int[NAMES];
        private final int[] stack = new int[MOST_TAPE];

        private Chances() {
        }

        private void rely(Text newRule, int newNumber, int newSort) {
            if (newNumber == ruleNumber && newSort == sort) {
                return;
            }
            rule = newRule;
            ruleNumber = newNumber;
            sort = newSort;
            Arrays.fill(said, (byte) NONE);
        }

        private int asks(int key, int step, int itsClass, int week, int moved) {
            int place = (((key * TIMES + moved) * TIMES + week) * CLASSES + itsClass) * STEPS + step;
            if (place < 0 || place >= said.length) {
                return 0;
            }
            if (said[place] == NONE) {
                names[0] = step;
                names[1] = itsClass;
                names[2] = week;
                names[3] = sort;
                names[4] = moved;
                names[5] = Math.max(0, WEEKS - 1 - week);
                int most = key == LAST ? 99 : 10;
                said[place] = key == LEARN && step == STEPS - 1 ? 0 : (byte) Math.max(0, Math.min(most, worth(key)));
            }
            return said[place];
        }

        /** What a key's signs leave on the stack. */
        private int worth(int key) {
            if (rule == null || key < 0 || key >= KEYS) {
                return 0;
            }
            int top = 0;
            for (int i = rule.starts[key]; i < rule.starts[key + 1] && i < rule.code.length; i++) {
                int sign = rule.code[i];
                if (sign >= Reader.NAME && top < stack.length) {
                    stack[top] = sign >= Reader.NUMBER ? sign - Reader.NUMBER : names[(sign - Reader.NAME) % NAMES];
                    top++;
                } else if (top > 0 && (sign == Reader.NOT || sign == Reader.NEGATE)) {
                    int last = stack[top - 1];
                    stack[top - 1] = sign == Reader.NEGATE ? -last : last == 0 ? 1 : 0;
                } else if (top > 1) {
                    top--;
                    stack[top - 1] = joined(sign, stack[top - 1], stack[top]);
                }
            }
            return stack[0];
        }

        private static int joined(int sign, int one, int other) {
            switch (sign) {
                case Reader.OR: return one != 0 || other != 0 ? 1 : 0;
                case Reader.AND: return one != 0 && other != 0 ? 1 : 0;
                case '<': return one < other ? 1 : 0;
                case '=': return one == other ? 1 : 0;
                case '+': return one + other;
                case '-': return one - other;
                default: return one * other;
            }
        }
    }

    /** The weeks of one pupil, one row of weights behind the other: row w is how it is ahead of week w. */
    private static final class Course {
        private final Chances chances;
        private final long[][] weights = new long[WEEKS + 1][STEPS];
        private final int[] classes = new int[WEEKS + 1];
        private final int[] moved = new int[WEEKS + 1];
        private int kind = PLAIN;
        private int number = 0;
        private int marks = 0;

        private Course(Chances chances) {
            this.chances = chances;
        }

        private void begin(int[] atFirst, int itsClass, int byKind, int byNumber) {
            for (int s = 0; s < STEPS; s++) {
                weights[0][s] = atFirst[s];
            }
            classes[0] = itsClass;
            moved[0] = 0;
            kind = byKind;
            number = byNumber;
            marks = 0;
        }

        private void follow(int weeks, int bits) {
            for (int w = 0; w < weeks && w < WEEKS; w++) {
                pass(w, bits >> w & 1);
                settle(w, wish(w));
            }
        }

        private long[] weightsAt(int week) {
            return weights[bounded(week)];
        }

        private int classThen(int week) {
            return classes[bounded(week)];
        }

        private int movedThen(int week) {
            return moved[bounded(week)];
        }

        private static int bounded(int week) {
            return Math.max(0, Math.min(WEEKS, week));
        }

        /** The weights at a week of a step and of those above. */
        private long from(int step, int week) {
            long[] row = weights[bounded(week)];
            long sum = 0;
            for (int s = Math.max(0, step); s < STEPS; s++) {
                sum += row[s];
            }
            return sum;
        }

        private long together(int week) {
            return from(0, week);
        }

        /** The weights at a week of its class's step then, and of those above. */
        private long fit(int week) {
            return from(classThen(week), week);
        }

        /** How likely it is high enough at a week, in tenthousandths. */
        private long share(int week) {
            long all = together(week);
            return all > 0 ? fit(week) * 10000 / all : 0;
        }

        /** A week with its Friday. */
        private void pass(int week, int right) {
            if (week < 0 || week >= WEEKS) {
                return;
            }
            marks = marks & ~(1 << week) | right << week;
            long[] was = weights[week];
            long[] then = weights[week + 1];
            long risen = 0;
            for (int s = 0; s < STEPS; s++) {
                long learn = chances.asks(LEARN, s, classes[week], week, moved[week]);
                long good = chances.asks(RIGHT, s, classes[week], week, moved[week]);
                then[s] = (was[s] * (10 - learn) + risen) * (right == 1 ? good : 10 - good);
                risen = was[s] * learn;
            }
        }

        private void settle(int week, int by) {
            if (week < 0 || week >= WEEKS) {
                return;
            }
            classes[week + 1] = held(classes[week] + by);
            moved[week + 1] = moved[week] + (classes[week + 1] == classes[week] ? 0 : 1);
        }

        /** How the kind moves behind a week that has passed. */
        private int wish(int week) {
            if (week < 0 || week >= WEEKS) {
                return 0;
            }
            switch (kind) {
                case TWICE: return twice(week);
                case TIMED: return number > 0 && (week + 1) % number == 0 ? 1 : 0;
                case SURE: return sure(week);
                case BACK: return twice(week) == 0 && wrongTwice(week) ? -1 : twice(week);
                case CAREFUL: return sure(week) == 0 && unsure(week) ? -1 : sure(week);
                default: return marks >> week & 1;
            }
        }

        private int twice(int week) {
            if (week < 1 || week >= WEEKS || (marks >> (week - 1) & 3) != 3) {
                return 0;
            }
            return classes[week] == classes[week - 1] ? 1 : 0;
        }

        private boolean wrongTwice(int week) {
            return week >= 1 && (marks >> (week - 1) & 3) == 0;
        }

        private int sure(int week) {
            long all = from(0, week + 1);
            return all > 0 && from(classes[bounded(week)], week + 1) * 10 >= number * all ? 1 : 0;
        }

        private boolean unsure(int week) {
            long all = from(0, week + 1);
            return all > 0 && from(classes[bounded(week)], week + 1) * 20 < number * all;
        }

        /** All ends times weights from a week on, moved by the kind; one level a week. */
        private long ends(int week) {
            if (week >= WEEKS) {
                return endsNow();
            }
            long sum = 0;
            for (int right = 0; right < 2; right++) {
                pass(week, right);
                settle(week, wish(week));
                sum += ends(week + 1);
            }
            return sum;
        }

        /** All weights from a week on, each as often as weeks are right; one level a week. */
        private long rights(int week) {
            if (week >= WEEKS) {
                return Integer.bitCount(marks) * together(WEEKS);
            }
            long sum = 0;
            for (int right = 0; right < 2; right++) {
                pass(week, right);
                settle(week, wish(week));
                sum += rights(week + 1);
            }
            return sum;
        }

        /** The most that ends times weights can be from a week on, by any moving; one level a week. */
        private long best(int week) {
            if (week >= WEEKS) {
                return endsNow();
            }
            long sum = 0;
            for (int right = 0; right < 2; right++) {
                pass(week, right);
                if (together(week + 1) > 0) {
                    sum += bestMove(week);
                }
            }
            return sum;
        }

        private long bestMove(int week) {
            if (week < 0 || week >= WEEKS) {
                return 0;
            }
            long most = 0;
            for (int by = -1; by <= 1; by++) {
                // where the class is held, moving is staying
                if (by == 0 || held(classes[week] + by) != classes[week]) {
                    settle(week, by);
                    most = Math.max(most, best(week + 1));
                }
            }
            return most;
        }

        private long endsNow() {
            long sum = 0;
            for (int s = 0; s < STEPS; s++) {
                sum += weights[WEEKS][s] * chances.asks(LAST, s, classes[WEEKS], WEEKS, moved[WEEKS]);
            }
            return sum;
        }
    }
}
