/** Counts answers that are not as due; tells each. */
final class Checks {
    private int all = 0;
    private int wrong = 0;

    void due(String call, long got, long want) {
        all++;
        if (got != want) {
            wrong++;
            System.out.println(call + " answered " + got + ", due is " + want);
        }
    }

    /** A fraction whose parts were asked one by one. */
    void due(String call, long above, long below, long wantAbove, long wantBelow) {
        due(call + " above", above, wantAbove);
        due(call + " below", below, wantBelow);
    }

    void end(String name) {
        System.out.println(name + ": " + all + " checks, " + wrong + " wrong");
        if (wrong != 0 || all == 0) {
            System.exit(1);
        }
    }
}
