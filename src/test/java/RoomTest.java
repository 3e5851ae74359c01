import java.lang.management.ManagementFactory;
import java.util.function.IntConsumer;

/** That calls make no objects but those they keep: all calls of a run share one small room. */
public final class RoomTest {
    private static final int CALLS = 400;
    private static final long SLACK = 2000;
    private static final com.sun.management.ThreadMXBean THREADS =
        (com.sun.management.ThreadMXBean) ManagementFactory.getThreadMXBean();
    private static final Checks CHECKS = new Checks();

    public static void main(String[] args) {
        MovesUp x = new MovesUp();
        for (int i = 0; i < 8; i++) {
            x.pupil(i % 6, 100 * (i % 5) + 10 * (i % 4) + i);
            x.weigh(i, 12345);
        }
        x.sheet(0, 1, 8);
        x.sheet(1, 1, 8);
        x.image();
        makesNothing("mean", i -> x.mean(i % 8, 4));
        makesNothing("loses", i -> x.mean(i % 8, 6));
        makesNothing("off", i -> x.off(i % 8, 1, 0));
        makesNothing("rule", i -> x.rule(i % 8, i & 1));
        makesNothing("room", i -> x.room(255, 4, 0));
        makesNothing("cut", i -> x.cut(4, 0, 1));
        makesNothing("thought", i -> x.thought(i % 8, 531, 2, 1));
        makesNothing("likely", i -> x.likely(i % 8, 531, 2));
        makesNothing("moves", i -> x.moves(i % 8, 531, 2));
        makesNothing("says", i -> x.says(i, i % 36, i % 3));
        makesNothing("summer", i -> x.summer(i % 8, i % 10));
        makesNothing("test", i -> x.test(i % 8, 101));
        makesNothing("image, back", i -> x.image() + x.back());
        makesNothing("sheet", i -> x.sheet(2, i % 4 - 1, i % 41));
        makesNothing("cell, copy", i -> x.cell(0, 1, i) + x.copy(0, 0, 1, 0, 8));
        makesNothing("pupils", i -> x.pupils(0, 1, 0, 4));
        makesNothing("a text with a fault", i -> x.feed(8, 0x206e7261656cL) + x.text());
        makesNothing("count, told, taken, weigh, pupil",
            i -> x.count(i % 6) + x.told(i % 8, i % 9) + x.taken(i % 8, 0) + x.weigh(i % 8, 5) + x.pupil(0, 0));
        CHECKS.due("a new object is small, too", made(i -> new MovesUp().count(0)) / CALLS < 9000 ? 1 : 0, 1);
        CHECKS.end("RoomTest");
    }

    private interface Call {
        long answer(int i);
    }

    private static void makesNothing(String name, Call call) {
        long bytes = made(i -> call.answer(i));
        CHECKS.due(name + " made " + bytes + " bytes; that it made few", bytes <= SLACK ? 1 : 0, 1);
    }

    /** How many bytes so many calls make; a first round lets the machine load what it needs. */
    private static long made(IntConsumer call) {
        long before = 0;
        for (int round = 0; round < 2; round++) {
            before = THREADS.getCurrentThreadAllocatedBytes();
            for (int i = 0; i < CALLS; i++) {
                call.accept(i);
            }
        }
        return THREADS.getCurrentThreadAllocatedBytes() - before;
    }
}
