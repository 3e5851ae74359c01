/** Edges of promises 5 to 8: the tape, where a text's fault is, what its sums come to, and where they are held. */
public final class EdgeTextsTest {
    private static final int BAD = Edges.BAD, FULL = Edges.FULL, MIN = Edges.MIN, MAX = Edges.MAX;
    private static final String REST = ";right 1;end 1;";
    private static final Edges EDGES = new Edges();

    public static void main(String[] args) {
        bytesOfANumber();
        fullTape();
        emptyTape();
        sixTexts();
        tapeBehindAText();
        eachByte();
        eachBytesBeginning();
        words();
        numbers();
        endsTooEarly();
        orderOfKeys();
        fiveOpen();
        openNoMore();
        wrapping();
        oneOrNothing();
        bounds();
        highestStep();
        names();
        force();
        says();
        EDGES.end("EdgeTextsTest");
    }

    private static void due(String call, long got, long want) {
        EDGES.due(call, got, want);
    }

    /** A text with an @ ahead of the byte where its fault is; without one it has none. */
    private static void fault(String marked) {
        int place = marked.indexOf('@');
        read(marked.replace("@", ""), place);
    }

    /** What text() answers: the place of the fault is told, or -1 if there is none. */
    private static void read(String s, int place) {
        MovesUp x = new MovesUp();
        Edges.put(x, s);
        due("text() of '" + s + "'", x.text(), place < 0 ? 1 : -100 - place);
    }

    /** What an E comes to, held by 0 and 99. */
    private static void comes(String e, int want) {
        due("end " + e, Edges.ruled("learn 0;right 0;end " + e + ";").says(0, 0, 2), want);
    }

    // ---- feed

    private static void bytesOfANumber() {
        EDGES.sentence("feed: BAD: n is not 1 .. 8");
        for (int n : new int[] {0, 9, -1, 16, MAX, MIN}) {
            EDGES.refused(Edges::usual, "feed(" + n + ", blanks)", BAD, y -> y.feed(n, 0x2020202020202020L));
        }
        EDGES.sentence("feed: how many it has");
        MovesUp x = new MovesUp();
        int size = 0;
        for (int n = 1; n <= 8; n++) {
            size += n;
            due("feed(" + n + ", 0)", x.feed(n, 0), size);
            due("count(2)", x.count(2), size);
        }
        EDGES.sentence("feed: the n lowest bytes of a number, the lowest first");
        String s = "learn 1;right 2;end 34;";
        for (int n = 1; n <= 8; n++) {
            x = new MovesUp();
            for (int at = 0; at < s.length(); at += n) {
                long bytes = n == 8 ? 0 : -1L << 8 * n;
                for (int i = 0; i < n; i++) {
                    bytes |= (at + i < s.length() ? (long) s.charAt(at + i) : 32L) << 8 * i;
                }
                x.feed(n, bytes);
            }
            due("text() fed by " + n, x.text(), 1);
            x.force(1);
            due("its end", x.says(0, 0, 2), 34);
        }
        EDGES.sentence("feed: the eighth byte may have its highest bit");
        x = new MovesUp();
        x.feed(8, 0x8031206e7261656cL);
        due("text()", x.text(), -107);
    }

    private static void fullTape() {
        EDGES.sentence("THE TAPE (160 bytes at most)");
        for (int n = 1; n <= 8; n++) {
            int last = n;
            MovesUp x = filled(160 - n);
            due("feed(" + n + ", ..) to 160", x.feed(n, 0), 160);
            EDGES.refused(() -> filled(161 - last), "feed(" + n + ", ..) to 161", FULL, y -> y.feed(last, 0));
            EDGES.refused(() -> filled(160), "feed(" + n + ", ..) behind 160", FULL, y -> y.feed(last, 0));
        }
        EDGES.sentence("feed: BAD; FULL");
        EDGES.refused(Edges::full, "feed(1, 32), a full tape", FULL, y -> y.feed(1, 32));
        EDGES.refused(Edges::full, "feed(0, 32), a full tape", BAD, y -> y.feed(0, 32));
        EDGES.refused(Edges::full, "feed(9, 32), a full tape", BAD, y -> y.feed(9, 32));
        EDGES.refused(Edges::full, "feed(max, 32), a full tape", BAD, y -> y.feed(MAX, 32));
        EDGES.sentence("A TEXT is read from THE TAPE (160 bytes at most): also all of them");
        String s = "learn 3;right 4;end 7";
        read(s + " ".repeat(159 - s.length()) + ";", -1);
        read(" ".repeat(160), 160);
        read(s + " ".repeat(160 - s.length()), 160);
        read(" ".repeat(159) + ";", 159);
        read("a".repeat(160), 0);
        read("learn " + "9".repeat(154), 6);
        EDGES.sentence("A TOKEN that ends where a full tape ends");
        for (String token : new String[] {"step", "999", "(", "-", "not"}) {
            read("learn 1 or " + " ".repeat(149 - token.length()) + token, 160);
        }
        for (String token : new String[] {"ste", "steps", "an", "and", "learn", "12345", "<", "!", "a"}) {
            read("learn 1 or " + " ".repeat(149 - token.length()) + token, 160 - token.length());
        }
        EDGES.sentence("A TOKEN on the tape does not go on with what was there before");
        MovesUp x = new MovesUp();
        Edges.put(x, "learn 1;right 1;end step 5555");
        due("text()", x.text(), -125);
        Edges.put(x, "learn 1;right 1;end ste");
        due("text() of a part of it", x.text(), -120);
        Edges.put(x, "learn 1;right 1;end step");
        due("text() of a word", x.text(), -124);
        EDGES.sentence("A TEXT of 160 bytes");
        read("learn 1" + "+1".repeat(69) + REST, -1);
        comes("1" + "+1".repeat(69), 70);
    }

    /** The usual object with a tape of so many bytes: a text, and blanks behind it. */
    private static MovesUp filled(int size) {
        MovesUp x = Edges.usual();
        while (x.count(2) < size) {
            x.feed(1, 32);
        }
        return x;
    }

    // ---- text

    private static void emptyTape() {
        EDGES.sentence("the text's size, if it ends too early: an empty one");
        MovesUp x = new MovesUp();
        due("text()", x.text(), -100);
        due("text() again", x.text(), -100);
        due("count(1)", x.count(1), 1);
        read(" ", 1);
        read("\n", 1);
    }

    private static void sixTexts() {
        EDGES.sentence("There are 6 TEXTS at most, TEXT 0 with them");
        MovesUp x = new MovesUp();
        for (int i = 1; i < 6; i++) {
            Edges.put(x, "learn 0;right 0;end " + i + ";");
            due("text() " + i, x.text(), i);
            due("count(1)", x.count(1), i + 1);
        }
        for (int i = 1; i < 6; i++) {
            x.force(i);
            due("each is kept: " + i, x.says(0, 0, 2), i);
        }
        EDGES.sentence("text: FULL (ahead of all): no TEXT more has room (THE TAPE stays)");
        EDGES.refused(Edges::full, "text() of a good tape", FULL, MovesUp::text);
        due("text() of no tape", x.text(), FULL);
        Edges.put(x, "learn x");
        due("text() of a fault", x.text(), FULL);
        due("count(2)", x.count(2), 7);
        due("feed behind it", x.feed(1, 32), 8);
        due("text() again", x.text(), FULL);
        due("count(1)", x.count(1), 6);
        EDGES.sentence("text: a FAULT takes no room");
        x = new MovesUp();
        for (int i = 0; i < 9; i++) {
            Edges.put(x, "learn");
            due("text() of a fault " + i, x.text(), -105);
        }
        for (int i = 1; i < 6; i++) {
            Edges.put(x, "learn 0;right 0;end 0;");
            due("text() behind faults", x.text(), i);
            Edges.put(x, "end");
            due("text() of a fault between", x.text(), i < 5 ? -100 : FULL);
        }
    }

    private static void tapeBehindAText() {
        EDGES.sentence("THE TAPE, which is empty then (by a FAULT, too)");
        MovesUp x = new MovesUp();
        Edges.put(x, "learn 0;right 0;end 8;");
        x.text();
        due("count(2) behind a text", x.count(2), 0);
        Edges.put(x, "learn 0;right 0;end 9");
        due("text() without its end", x.text(), -121);
        due("count(2) behind a fault", x.count(2), 0);
        due("feed behind a fault", x.feed(1, ';'), 1);
        due("text() of what came behind a fault", x.text(), -100);
        due("count(1)", x.count(1), 2);
        x.force(1);
        due("the text before is as it was", x.says(0, 0, 2), 8);
        EDGES.sentence("text: its number; THE RULE is which it was");
        Edges.put(x, "learn 0;right 0;end 9;");
        due("text()", x.text(), 2);
        due("count(3)", x.count(3), 1);
        due("says", x.says(0, 0, 2), 8);
    }

    // ---- faults

    private static void eachByte() {
        EDGES.sentence("SIGNS ( ) ; + - * < = ; blanks (32, 10) may stand between; FAULT: a byte that begins none");
        for (int b = 0; b < 256; b++) {
            int place = 10;
            if (b == 32 || b == 10 || b == ';') {
                place = 11;
            } else if (b >= 'a' && b <= 'z') {
                place = 6;
            } else if ("+-*<=".indexOf(b) >= 0) {
                place = -1;
            }
            MovesUp x = new MovesUp();
            Edges.put(x, "learn step");
            x.feed(1, b);
            Edges.put(x, "step" + REST);
            due("text() with byte " + b, x.text(), place < 0 ? 1 : -100 - place);
        }
    }

    private static void eachBytesBeginning() {
        EDGES.sentence("blanks (32, 10) may stand ahead and behind, no other byte");
        for (int b = 0; b < 256; b++) {
            boolean blank = b == 32 || b == 10;
            MovesUp x = new MovesUp();
            x.feed(1, b);
            Edges.put(x, "learn 1" + REST);
            due("text() ahead of which is " + b, x.text(), blank ? 1 : -100);
            x = new MovesUp();
            Edges.put(x, "learn 1" + REST);
            x.feed(1, b);
            due("text() behind which is " + b, x.text(), blank ? 1 : -122);
        }
        EDGES.sentence("blanks may stand between, or not");
        fault("learn1;right1;end1;");
        fault("\n\n learn \n 1 \n ; right\n1\n;\nend\n\n1 ;\n\n");
        fault("learn not(1)and(1)or(1)" + REST);
        fault("learn 1 @2" + REST);
        fault("learn @st ep" + REST);
        fault("@le arn 1;");
    }

    private static void words() {
        EDGES.sentence("FAULT: a WORD that is neither KEY nor NAME; WORDS, each as long as can be");
        for (String name : new String[] {"step", "class", "week", "sort", "moved", "left"}) {
            fault("learn " + name + REST);
            fault("learn @" + name.substring(1) + REST);
            fault("learn @" + name.substring(0, name.length() - 1) + REST);
            fault("learn @" + name + "s" + REST);
            fault("learn @x" + name + REST);
            fault("learn @" + name.toUpperCase() + REST);
            fault("learn @" + name + name + REST);
            fault("learn " + name + "@1" + REST);
            fault("learn 1@" + name + REST);
            fault("@" + name);
        }
        for (String key : new String[] {"learn", "right", "end", "or", "and"}) {
            fault("learn @" + key + " 1" + REST);
            fault("learn (@" + key + " 1)" + REST);
            fault("learn -@" + key + " 1" + REST);
            fault("learn not @" + key + " 1" + REST);
        }
        for (String key : new String[] {"learn", "right", "end", "not"}) {
            fault("learn 1 @" + key + " 1" + REST);
            fault("learn 1+@" + key + " 1" + REST);
            fault("learn 1*@" + key + " 1" + REST);
            fault("learn 1<@" + key + " 1" + REST);
        }
        fault("learn @an 1" + REST);
        fault("learn 1 @ands 1" + REST);
        fault("learn 1 @o 1" + REST);
        fault("learn @nots 1" + REST);
        fault("@learnx 1" + REST);
        fault("@lear");
        fault("@a");
        fault("@z");
    }

    private static void numbers() {
        EDGES.sentence("NUMBERS (as many digits as stand there, 4 at most); FAULT: a NUMBER that is too long");
        fault("learn 9999" + REST);
        fault("learn 0000" + REST);
        fault("learn @10000" + REST);
        fault("learn @00000" + REST);
        fault("learn 1+@99999" + REST);
        fault("learn @123456789012345678901234567890" + REST);
        fault("learn 1;right 2;end @12345");
        fault("learn 1;right 2;end 1234;@12345");
        comes("0000", 0);
        comes("0099", 99);
        comes("9999-9900", 99);
        comes("9999=9998+1", 1);
        comes("1000-0999", 1);
    }

    private static void endsTooEarly() {
        EDGES.sentence("FAULT: the text's size, if it ends too early");
        String s = "learn 5 - ( class - step ) * ( class - step ) * 2 or not 1 < 2 ; "
            + "right 8 - class * 2 + step * 2 = 3 and 4 ; end - step * 10 ;";
        for (int at = s.indexOf(' '); at >= 0; at = s.indexOf(' ', at + 1)) {
            read(s.substring(0, at), at);
            read(s.substring(0, at + 1), at + 1);
        }
        read(s, -1);
        fault("learn 1;right 1;end 1@");
        fault("learn 1;right 1;end 1 \n@");
        EDGES.sentence("FAULT: the first TOKEN that can't stand there, behind all of it, too");
        fault("learn 1;right 1;end 1;@;");
        fault("learn 1;right 1;end 1; @learn 1;right 1;end 1;");
        fault("learn 1;right 1;end 1;@x");
        fault("learn 1;right 1;end 1;@7");
        fault("learn 1;right 1;end 1;@(");
        EDGES.sentence("FAULT: of some the first");
        fault("learn @x;right y;end 12345;");
        fault("learn 1 @2 x;right !");
        fault("learn (((((@(;");
    }

    private static void orderOfKeys() {
        EDGES.sentence("TEXT: learn E ; right E ; end E ;");
        fault("@right 1;learn 1;end 1;");
        fault("@end 1;");
        fault("learn 1;@learn 1;");
        fault("learn 1;@end 1;right 1;");
        fault("learn 1;right 1;@right 1;");
        fault("learn 1;right 1;@learn 1;");
        fault("learn@;right 1;end 1;");
        fault("learn 1;right@;end 1;");
        fault("learn 1;right 1;end@;");
        fault("learn 1@right 1;");
        fault("learn 1;@;");
        EDGES.sentence("NOT: not NOT, or SUM, perhaps < or = and a SUM");
        fault("learn 1<2@<3" + REST);
        fault("learn 1<2@=3" + REST);
        fault("learn 1=2@<3" + REST);
        fault("learn 1<@=2" + REST);
        fault("learn 1<@<2" + REST);
        fault("learn @<2" + REST);
        fault("learn 1<2 and 2<3 or 3=4" + REST);
        fault("learn not 1<2" + REST);
        fault("learn 1<@not 2" + REST);
        EDGES.sentence("SUM: TERM { + or - TERM }; TERM: ONE { * ONE }; ONE: a NUMBER, a NAME, - ONE, ( E )");
        fault("learn @+1" + REST);
        fault("learn 1+@+1" + REST);
        fault("learn 1+@*1" + REST);
        fault("learn 1*@*1" + REST);
        fault("learn @*1" + REST);
        fault("learn 1*-1+-1--1" + REST);
        fault("learn 1-@;right");
        fault("learn (@)" + REST);
        fault("learn @)" + REST);
        fault("learn (1@;");
        fault("learn (1)@)" + REST);
        fault("learn (1)@(1)" + REST);
        fault("learn -@not 1" + REST);
        fault("learn 1 or @or 1" + REST);
        fault("learn 1 and @or 1" + REST);
        fault("learn 1 and@;");
    }

    /** All rows of six that may be open: the sixth can't be, and no not can stand behind a -. */
    private static void fiveOpen() {
        EDGES.sentence("FAULT: a ( , a not, a - ahead of a ONE while 5 of these are open");
        String[] signs = {"(", "- ", "not "};
        for (int many = 4; many <= 6; many++) {
            for (int row = 0; row < Math.pow(3, many); row++) {
                StringBuilder s = new StringBuilder("learn ");
                StringBuilder closed = new StringBuilder();
                int place = -1;
                int last = 0;
                for (int i = 0, left = row; i < many; i++, left /= 3) {
                    int sign = left % 3;
                    if (place < 0 && (i == 5 || sign == 2 && last == 1)) {
                        place = s.length();
                    }
                    s.append(signs[sign]);
                    closed.append(sign == 0 ? ")" : "");
                    last = sign;
                }
                read(s + "1" + closed + REST, place);
            }
        }
    }

    private static void openNoMore() {
        EDGES.sentence("(a ( till its ) , not and - till what they belong to ends)");
        fault("learn (((((1)))))+(((((1)))))*(((((1)))))" + REST);
        fault("learn -----1*-----1+-----1-----1" + REST);
        fault("learn not not not not not 1 and not not not not not 1 or not not not not not 1" + REST);
        fault("learn not not not not not 1<2+3*4" + REST);
        fault("learn not not not not not 1<@-2" + REST);
        fault("learn not not not not not 1+@(2)" + REST);
        fault("learn not not not not 1<-2*-3+(4)" + REST);
        fault("learn not not not not 1<-@-2" + REST);
        fault("learn ((((-1)*-1)*-1)*-1)*-1" + REST);
        fault("learn ((((-1)*(1))))" + REST);
        fault("learn ((((-@(1)))))" + REST);
        fault("learn (((((1)*1)*1)*1)*1)*(1)" + REST);
        fault("learn (((((1 or 1))))) or (((((1 or @(1" + REST);
        fault("learn -(((1)))--(((-1)))" + REST);
        fault("learn -(-(-1))" + REST);
        fault("learn -(-(-@(1)))" + REST);
        fault("learn (((((1-1-1-1-1-1-1)))))" + REST);
        fault("learn 1-1-1-1-1-1-1-1-1" + REST);
        EDGES.sentence("none is open in the next E");
        fault("learn (((((1)))));right -----1;end not not not not not 1;");
        fault("learn -----1;right ((((@)");
        EDGES.sentence("none is open in the next TEXT, behind a FAULT, too");
        MovesUp x = new MovesUp();
        Edges.put(x, "learn ((((((");
        due("text() of six", x.text(), -111);
        Edges.put(x, "learn (((((1)))))" + REST);
        due("text() of five", x.text(), 1);
    }

    // ---- sums

    private static void wrapping() {
        EDGES.sentence("An E is an int (32 bits, wrapping)");
        String least = "8192*8192*32";
        comes(least, 0);
        comes(least + "<0", 1);
        comes(least + "-1", 99);
        comes(least + "-1+1<0", 1);
        comes("-(" + least + ")<0", 1);
        comes("-(" + least + ")=" + least, 1);
        comes("-(" + least + "-1)=" + least + "+1", 1);
        comes("8192*8192*64", 0);
        comes("8192*8192*64+7", 7);
        comes("8192*8192*64=0", 1);
        comes("(" + least + "-1)+(" + least + "-1)=-2", 1);
        comes("0-(" + least + ")<0", 1);
        comes("9999*9999*9999=9999*9999*9999", 1);
        comes("9999*9999*43<0", 9999 * 9999 * 43 < 0 ? 1 : 0);
        comes("9999*9999*22<0", 1);
        comes("9999*9999*21<0", 0);
        EDGES.sentence("< by the ints themselves, at their bounds, too");
        comes(least + "<1", 1);
        comes("1<" + least, 0);
        comes(least + "-1<" + least, 0);
        comes(least + "<" + least + "-1", 1);
        comes(least + "<" + least, 0);
        EDGES.sentence("what is not 0 is true: also the least int, and not what wraps to 0");
        comes("not (" + least + ")", 0);
        comes(least + " and 1", 1);
        comes(least + " or 0", 1);
        comes("not 8192*8192*64", 1);
        comes("8192*8192*64 or 0", 0);
        EDGES.sentence("learn, right are held behind wrapping");
        MovesUp x = Edges.ruled("learn " + least + ";right " + least + "-1;end 0;");
        due("learn", x.says(0, 0, 0), 0);
        due("right", x.says(0, 0, 1), 10);
    }

    private static void oneOrNothing() {
        EDGES.sentence("of or, and, not, <, = 1 or 0 (what is not 0 is true)");
        int[] some = {-2, -1, 0, 1, 2, 7};
        for (int a : some) {
            comes("50+(not " + a + ")", 50 + (a == 0 ? 1 : 0));
            for (int b : some) {
                comes("50+(" + a + " or " + b + ")", 50 + (a != 0 || b != 0 ? 1 : 0));
                comes("50+(" + a + " and " + b + ")", 50 + (a != 0 && b != 0 ? 1 : 0));
                comes("50+(" + a + "<" + b + ")", 50 + (a < b ? 1 : 0));
                comes("50+(" + a + "=" + b + ")", 50 + (a == b ? 1 : 0));
                comes("50+(" + a + "--" + b + ")", 50 + a - -b);
                comes("50+(" + a + "*" + b + ")", 50 + a * b);
            }
        }
    }

    private static void bounds() {
        EDGES.sentence("learn: (0 .. 10, else the bound)");
        String[] sums = {"-9999", "-1", "0", "1", "9", "10", "11", "9999"};
        int[] tenths = {0, 0, 0, 1, 9, 10, 10, 10};
        for (int i = 0; i < sums.length; i++) {
            due("learn " + sums[i], Edges.ruled("learn " + sums[i] + ";right 5;end 5;").says(300, 0, 0), tenths[i]);
        }
        EDGES.sentence("right: (0 .. 10, else the bound)");
        for (int i = 0; i < sums.length; i++) {
            due("right " + sums[i], Edges.ruled("learn 5;right " + sums[i] + ";end 5;").says(400, 0, 1), tenths[i]);
        }
        EDGES.sentence("end: (0 .. 99, else the bound)");
        String[] ends = {"-9999", "-1", "0", "1", "10", "11", "98", "99", "100", "9999"};
        int[] worth = {0, 0, 0, 1, 10, 11, 98, 99, 99, 99};
        for (int i = 0; i < ends.length; i++) {
            comes(ends[i], worth[i]);
        }
        EDGES.sentence("MEAN by ends that are held");
        MovesUp x = Edges.ruled("learn 99;right -7;end 1000*step;");
        x.pupil(2, 0);
        EDGES.due("mean", x.mean(0, 0), x.mean(0, 1), 99, 1);
    }

    private static void highestStep() {
        EDGES.sentence("learn: on STEP 4 none");
        MovesUp x = Edges.ruled("learn 10;right 10;end 0;");
        for (int cls = 0; cls < 5; cls++) {
            for (int week = 0; week < 6; week++) {
                EDGES.due("learn on step 4", x.says(400 + 10 * cls + week, 35, 0), 0);
                EDGES.due("learn on step 3", x.says(300 + 10 * cls + week, 35, 0), 10);
            }
        }
        EDGES.due("right on step 4", x.says(400, 0, 1), 10);
        x.pupil(0, 0);
        x.weigh(0, 10000);
        EDGES.due("one stays on step 4", x.thought(0, 531, 4, 0), 1);
        EDGES.due("likely", x.likely(0, 531, 0), 1);
    }

    private static void names() {
        EDGES.sentence("NAMES are step class week sort moved left; left: WEEKS behind this one");
        String[] names = {"step", "class", "week", "sort", "moved", "left"};
        for (int i = 0; i < names.length; i++) {
            MovesUp x = Edges.ruled("learn " + names[i] + ";right " + names[i] + ";end " + names[i] + ";");
            for (int v = 0; v < 6; v++) {
                int where = i == 0 ? 100 * v : i == 1 ? 10 * v : i == 2 || i == 5 ? v : 0;
                int who = i == 3 ? 10 * v : i == 4 ? v : 0;
                int most = i < 2 ? 4 : i == 3 ? 3 : 5;
                int worth = i == 5 ? Math.max(0, 4 - v) : v;
                for (int key = 0; key < 3; key++) {
                    int comes = key == 0 && i == 0 && v == 4 ? 0 : worth;
                    due(names[i] + " " + v + ", key " + key, x.says(where, who, key), v > most ? BAD : comes);
                }
            }
        }
        EDGES.sentence("end: class as it is then, week 5, left 0");
        MovesUp x = Edges.ruled("learn 0;right 5;end week*10+left*40+class;");
        x.pupil(2, 1);
        EDGES.due("mean", x.mean(0, 0), x.mean(0, 1), 54, 1);
        x.pupil(2, 0);
        EDGES.due("mean, never moved", x.mean(1, 0), x.mean(1, 1), 50, 1);
        EDGES.sentence("moved: how often one has moved so far (up or back)");
        x = Edges.ruled("learn 0;right 5;end moved*10;");
        x.pupil(4, 400);
        // of 32 marks: 1 has moved 4 times, back behind each of the weeks 1 to 4; all are asked by moves()
        long sum = 0;
        for (int bits = 0; bits < 32; bits++) {
            sum += 10L * x.moves(0, 500 + bits, 1);
        }
        due("all weights of mean", x.mean(0, 0) * (32 / x.mean(0, 1)), sum);
        due("moved back by five wrong", x.moves(0, 500, 1), 4);
    }

    // ---- force, says

    private static void force() {
        EDGES.sentence("force: A TEXT is THE RULE: which was. BAD");
        for (int text : new int[] {-1, 2, 3, 5, 6, MAX, MIN}) {
            EDGES.refused(Edges::usual, "force(" + text + ")", BAD, y -> y.force(text));
        }
        EDGES.refused(MovesUp::new, "force(1)", BAD, y -> y.force(1));
        EDGES.refused(Edges::full, "force(6)", BAD, y -> y.force(6));
        MovesUp x = Edges.full();
        due("force(5)", x.force(5), 3);
        due("force(5) again", x.force(5), 5);
        due("force(0)", x.force(0), 5);
        due("count(3)", x.count(3), 0);
    }

    private static void says() {
        EDGES.sentence("says: where: 100 times STEP, 10 times CLASS, and WEEK 0 .. 5");
        for (int where : new int[] {-1, -100, 6, 7, 9, 50, 55, 96, 106, 450, 446, 500, 510, 1000, 65536, MAX, MIN}) {
            for (int key = 0; key < 3; key++) {
                int asked = key;
                EDGES.refused(Edges::usual, "says(" + where + ", 0, " + key + ")", BAD, y -> y.says(where, 0, asked));
            }
        }
        EDGES.sentence("says: who: 10 times SORT, and how often it MOVED 0 .. 5");
        for (int who : new int[] {-1, -10, 6, 7, 9, 16, 36, 39, 40, 45, 100, 65536, MAX, MIN}) {
            EDGES.refused(Edges::usual, "says(0, " + who + ", 1)", BAD, y -> y.says(0, who, 1));
        }
        EDGES.sentence("says: learn (0), right (1), end (2)");
        for (int key : new int[] {-1, 3, 4, MAX, MIN}) {
            EDGES.refused(Edges::usual, "says(0, 0, " + key + ")", BAD, y -> y.says(0, 0, key));
        }
        EDGES.onlyAsks(Edges::usual, "says", y -> y.says(0, 0, 0) + y.says(345, 35, 1) + y.says(123, 10, 2));
        MovesUp x = Edges.ruled("learn 9;right 8;end 7;");
        int[] want = {9, 8, 7};
        for (int key = 0; key < 3; key++) {
            due("the least of all, " + key, x.says(0, 0, key), want[key]);
            due("the most of all, " + key, x.says(345, 35, key), want[key]);
        }
    }
}
