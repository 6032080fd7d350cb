import java.lang.management.ManagementFactory;

/** All calls of a run live in one room: only a new object takes some of it. */
public final class RoomTest {
    private static final long MOST_OF_AN_OBJECT = 100_000;
    private static final long MOST_OF_ALL_CALLS = 4_096;
    private static final String TASK = "L49999r22bb+01rbb22-01r1230+20r0aaa-02r1010+15r0101+14";

    public static void main(String[] args) {
        com.sun.management.ThreadMXBean threads =
            (com.sun.management.ThreadMXBean) ManagementFactory.getThreadMXBean();
        // Ahead of what is measured all classes are loaded.
        allCalls(new CutTrail());
        threads.getCurrentThreadAllocatedBytes();
        long start = threads.getCurrentThreadAllocatedBytes();
        CutTrail trail = new CutTrail();
        long made = threads.getCurrentThreadAllocatedBytes();
        allCalls(trail);
        long end = threads.getCurrentThreadAllocatedBytes();
        System.out.println("an object takes " + (made - start) + " bytes, its calls " + (end - made));
        if (made - start > MOST_OF_AN_OBJECT || end - made > MOST_OF_ALL_CALLS) {
            System.out.println("that is too much room");
            System.exit(1);
        }
    }

    private static long allCalls(CutTrail trail) {
        long sum = trail.wipe();
        for (int i = 0; i < TASK.length(); i++) {
            sum += trail.write(TASK.charAt(i));
        }
        sum += trail.fault() + trail.task();
        for (int turn = 0; turn < 20; turn++) {
            sum += trail.make(turn % 4, turn % 2, turn % 10) + trail.run(50) + trail.learn() + trail.leave();
            sum += trail.about(turn % 14) + trail.number(turn % 4, 3) + trail.rule(turn % 6, 5);
            sum += trail.mark(turn, 3) + trail.cut(turn, 0) + trail.follows(turn);
            sum += trail.judge(4, 101300202300L) + trail.see(0, 0, 1, 1) + trail.which() + trail.unsee();
            sum += trail.share(turn % 6, true) + trail.chance(turn, 3, false) + trail.drawn(10);
            sum += trail.keep(turn % 2) + trail.undo() + trail.again(turn % 2) + trail.seed(turn);
        }
        return sum;
    }
}
