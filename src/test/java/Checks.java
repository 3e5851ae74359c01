/** Counts answers that are not as due; tells each. */
final class Checks {
    private int all = 0;
    private int wrong = 0;

    void due(String call, long got, long want) {
        all++;
        if (got != want) {
            wrong++;
            System.out.println(call + " answered " + got + ", due is " + want);
        }
    }

    /** Two texts that must be the same; tells from where on they are not. */
    void same(String what, String got, String want) {
        all++;
        if (!got.equals(want)) {
            wrong++;
            int at = 0;
            while (at < got.length() && at < want.length() && got.charAt(at) == want.charAt(at)) {
                at++;
            }
            System.out.println(what + " is not as due from sign " + at + " on: " + cut(got, at) + ", due is " + cut(want, at));
        }
    }

    private static String cut(String s, int at) {
        return s.substring(Math.max(0, at - 20), Math.min(s.length(), at + 40));
    }

    /** A fraction whose parts were asked one by one. */
    void due(String call, long above, long below, long wantAbove, long wantBelow) {
        due(call + " above", above, wantAbove);
        due(call + " below", below, wantBelow);
    }

    void end(String name) {
        System.out.println(name + ": " + all + " checks, " + wrong + " wrong");
        if (wrong != 0 || all == 0) {
            System.exit(1);
        }
    }
}
