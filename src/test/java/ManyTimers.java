/** How 392 timers are made with few calls: a task that makes eight of itself, on the loops 0 .. 5 of eight. */
final class ManyTimers {
    static final int MADE = 392;

    private ManyTimers() {
    }

    /** Loops 6 and 7 are not started by it; the answer is the task. */
    static int make(Group x) {
        int eight = x.task();
        for (int k = 0; k < 8; k++) {
            x.order(eight, 2, eight, 0);
        }
        for (int loop = 0; loop < 6; loop++) {
            x.execute(eight, loop);
            // 8 timers; their batch of 8: three of it fill the loop's 24; then 24 in the queue.
            steps(x, loop, 1 + 3);
            steps(x, loop, 5 + 3);
        }
        for (int loop = 0; loop < 4; loop++) {
            // 13 end the batch of 16; 16 timers have room in the queue, so two tasks fill the 24 again.
            steps(x, loop, 13 + (loop < 3 ? 2 : 1));
        }
        return eight;
    }

    private static void steps(Group x, int loop, int count) {
        for (int k = 0; k < count; k++) {
            x.step(loop);
        }
    }
}
