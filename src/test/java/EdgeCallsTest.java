/** The edges that the sections of promises 7 to 19 name. */
final class EdgeCallsTest {
    private static final String COMPLETES =
        "how 1, 2, 3, 4 pins it: whether it was so (of 4 always but when it is done). "
        + "IllegalArgumentException: no such promise or how.";
    private static final String TRACE_REFUSED =
        "IllegalArgumentException: no such what; IndexOutOfBoundsException: there is none that is kept.";

    public static void main(String[] args) {
        Doc.says("The clock goes on by 0 .. 1,000,000: it. IllegalArgumentException: it is not so.", EdgeCallsTest::advance);
        Doc.says("THE CLOCK is in milliseconds, 0 at first, and goes on by advance() alone.", EdgeCallsTest::clock);
        Doc.says("Executes a task on a loop (-2: the chooser's): the loop.", EdgeCallsTest::execute);
        Doc.says("(-1 is of orders alone; the chooser counts also when it is rejected.)", EdgeCallsTest::executeRefused);
        Doc.says("A timer on a loop: its number. IllegalArgumentException, IllegalStateException: as said.", EdgeCallsTest::timer);
        Doc.says("Whether a timer was there, and went.", EdgeCallsTest::cancel);
        Doc.says(COMPLETES, EdgeCallsTest::complete);
        Doc.says("A listener more. IllegalArgumentException: no such promise or task, or there are 6.", EdgeCallsTest::listen);
        Doc.says("IllegalArgumentException: no such channel; IllegalStateException: rejected.", EdgeCallsTest::fire);
        Doc.says("Shuts down. IllegalArgumentException: not 0 <= quiet <= timeout.", EdgeCallsTest::shutdown);
        Doc.says("1 something ran, 0 nothing, 2 it is blocked still, 3 it became terminated.", EdgeCallsTest::stepAnswers);
        Doc.says("A loop's thread takes a step", EdgeCallsTest::stepRefused);
        Doc.says("4 how many of its batch are left. IllegalArgumentException: no such loop or what.", EdgeCallsTest::loop);
        Doc.says("2 how many listeners wait. IllegalArgumentException: no such promise or what.", EdgeCallsTest::look);
        Doc.says("How many entries the trace has had.", EdgeCallsTest::traced);
        Doc.says("(k from 0 on, counted over all that there ever were.)", EdgeCallsTest::traceCounts);
        Doc.says(TRACE_REFUSED, EdgeCallsTest::traceRefused);
        Check.end();
    }

    private static void advance() {
        Group x = new Group(1);
        Check.same("by 0", x.advance(0), 0);
        Check.same("by 1", x.advance(1), 1);
        Check.same("by 999,999", x.advance(999999), 1000000);
        Check.same("by 1,000,000", x.advance(1000000), 2000000);
        for (int by : new int[] {-1, 1000001, 1000002, Integer.MAX_VALUE, Integer.MIN_VALUE}) {
            Check.cannotBe("by " + by, x, () -> x.advance(by));
        }
        Check.same("it stood still", x.advance(0), 2000000);
        for (int k = 0; k < 490; k++) {
            x.advance(1000000);
        }
        Check.same("as far as calls can bring it", x.advance(1000000), 493000000L);
    }

    private static void clock() {
        Group x = new Group(2);
        Check.same("at first", x.advance(0), 0);
        Check.task(x, 0, 1, 0, 2, 0, 5, 12, 1, 2);
        x.timer(0, 1000, 0);
        x.execute(0, 1);
        for (int k = 0; k < 50; k++) {
            x.step(0);
            x.step(1);
        }
        Check.same("neither calls nor steps bring it on", x.advance(0), 0);
    }

    private static void execute() {
        Group x = new Group(5);
        x.task();
        for (int loop = 4; loop >= 0; loop--) {
            Check.same("on " + loop, x.execute(0, loop), loop);
            Check.same("it is there", x.loop(loop, 1), 1);
        }
        for (int k = 0; k < 11; k++) {
            Check.same("the chooser's", x.execute(0, -2), k % 5);
            Check.same("it is there", x.loop(k % 5, 1), 2 + k / 5);
        }
    }

    private static void executeRefused() {
        Group x = new Group(2);
        Check.cannotBe("no task yet", x, () -> x.execute(0, 0));
        Check.cannotBe("no task yet for the chooser", x, () -> x.execute(0, -2));
        x.task();
        Check.cannotBe("-1 of the host", x, () -> x.execute(0, -1));
        Check.cannotBe("-3", x, () -> x.execute(0, -3));
        Check.cannotBe("2", x, () -> x.execute(0, 2));
        for (int task : Check.outside(1)) {
            Check.cannotBe("task " + task, x, () -> x.execute(task, 0));
            Check.cannotBe("task " + task + " for the chooser", x, () -> x.execute(task, -2));
        }
        for (int k = 0; k < 24; k++) {
            x.execute(0, 0);
        }
        Check.illegalState("the chooser's 0 is full", () -> x.execute(0, -2));
        Check.same("it was counted", x.execute(0, -2), 1);
        Check.rejected("a full loop", x, 0, () -> x.execute(0, 0));
        Check.illegalState("0 again", () -> x.execute(0, -2));
        Check.illegalArgument("-1 of a full group", () -> x.execute(0, -1));
        Check.same("the chooser counts its own times alone", x.execute(0, -2), 1);
    }

    private static void timer() {
        Group x = new Group(2);
        Check.cannotBe("no task yet", x, () -> x.timer(0, 0, 0));
        x.task();
        for (int task : Check.outside(1)) {
            Check.cannotBe("task " + task, x, () -> x.timer(task, 0, 0));
        }
        for (int loop : new int[] {-2, -1, 2, Integer.MAX_VALUE, Integer.MIN_VALUE}) {
            Check.cannotBe("loop " + loop, x, () -> x.timer(0, 0, loop));
        }
        for (int delay : new int[] {-1, -2, Integer.MIN_VALUE}) {
            Check.cannotBe("delay " + delay, x, () -> x.timer(0, delay, 0));
        }
        Check.same("delay 0", x.timer(0, 0, 0), 0);
        Check.same("the most", x.timer(0, Integer.MAX_VALUE, 0), 1);
        for (int k = 2; k < 24; k++) {
            x.timer(0, 0, 0);
        }
        Check.rejected("the 25th at a loop", x, 0, () -> x.timer(0, 0, 0));
        Check.cannotBe("a delay below 0 at a full loop", x, () -> x.timer(0, -1, 0));
    }

    private static void cancel() {
        Group x = new Group(2);
        for (int timer : Check.outside(0)) {
            Check.same("none was made", x.cancel(timer), false);
        }
        Check.same("nor 0", x.cancel(0), false);
        x.task();
        x.timer(0, 0, 0);
        x.timer(0, 0, 1);
        for (int timer : Check.outside(2)) {
            long before = Inside.all(x);
            Check.same("cancel(" + timer + ")", x.cancel(timer), false);
            Check.same("it does nothing", Inside.all(x), before);
        }
        Check.same("the last one", x.cancel(1), true);
        Check.same("again", x.cancel(1), false);
        Check.same("the first one", x.cancel(0), true);
        Check.same("nothing runs", x.step(0) + x.step(1), 0);
        Check.traceIs("nothing is logged", x, "0:7:2 -1:9:0 1:7:2 -1:9:1");
    }

    private static void complete() {
        Group x = new Group(1);
        Check.cannotBe("no promise yet", x, () -> x.complete(0, 1, 0));
        for (int k = 0; k < 4; k++) {
            x.promise(0);
        }
        for (int promise : Check.outside(4)) {
            Check.cannotBe("promise " + promise, x, () -> x.complete(promise, 1, 0));
            Check.cannotBe("promise " + promise + " to pin", x, () -> x.complete(promise, 4, 0));
        }
        for (int how : new int[] {0, -1, 5, Integer.MAX_VALUE, Integer.MIN_VALUE}) {
            Check.cannotBe("how " + how, x, () -> x.complete(0, how, 0));
        }
        Check.same("pinned", x.complete(3, 4, 7), true);
        Check.same("pinned again", x.complete(3, 4, 7), true);
        for (int how = 1; how <= 3; how++) {
            Check.same("how " + how, x.complete(how - 1, how, Integer.MIN_VALUE), true);
            long before = Inside.all(x);
            for (int again = 1; again <= 4; again++) {
                Check.same("then " + again, x.complete(how - 1, again, 3), false);
            }
            Check.same("one that is done stays as it was", Inside.all(x), before);
            int done = how - 1;
            Check.cannotBe("how 5 of one that is done", x, () -> x.complete(done, 5, 0));
        }
    }

    private static void listen() {
        Group x = new Group(1);
        x.task();
        Check.cannotBe("no promise yet", x, () -> x.listen(0, 0));
        x.promise(0);
        for (int promise : Check.outside(1)) {
            Check.cannotBe("promise " + promise, x, () -> x.listen(promise, 0));
        }
        for (int task : Check.outside(1)) {
            Check.cannotBe("task " + task, x, () -> x.listen(0, task));
        }
        for (int k = 0; k < 6; k++) {
            x.listen(0, 0);
        }
        Check.same("the 6th waits", x.look(0, 2), 6);
        Check.cannotBe("the 7th", x, () -> x.listen(0, 0));
        x.complete(0, 1, 0);
        for (int task : Check.outside(1)) {
            Check.cannotBe("task " + task + " at one that is done", x, () -> x.listen(0, task));
        }
        for (int k = 0; k < 7; k++) {
            x.listen(0, 0);
        }
        Check.same("one that is done takes any number", x.loop(0, 1), 13);
    }

    private static void fire() {
        Group x = new Group(2);
        Check.cannotBe("no channel yet", x, () -> x.fire(0, 0));
        x.channels(0, 1);
        for (int channel : Check.outside(2)) {
            Check.cannotBe("channel " + channel, x, () -> x.fire(channel, 0));
        }
        for (int k = 0; k < 24; k++) {
            x.fire(0, k);
        }
        Check.rejected("the 25th", x, -1, () -> x.fire(0, 7));
        x.fire(1, Integer.MIN_VALUE);
        x.step(1);
        Check.traceIs("any message", x, x.traced() - 1, "1:8:-2147483648");
        x.shutdown(0, 0);
        x.step(1);
        Check.rejected("a loop that is terminated", x, -1, () -> x.fire(1, 7));
    }

    private static void shutdown() {
        Group x = new Group(2);
        int[][] wrong = {{-1, 0}, {-1, -1}, {0, -1}, {1, 0}, {5, 4}, {Integer.MIN_VALUE, 0}, {0, Integer.MIN_VALUE},
            {Integer.MAX_VALUE, Integer.MAX_VALUE - 1}, {Integer.MAX_VALUE, Integer.MIN_VALUE}};
        for (int[] pair : wrong) {
            Check.cannotBe(pair[0] + ", " + pair[1], x, () -> x.shutdown(pair[0], pair[1]));
        }
        int[][] right = {{0, 0}, {0, 1}, {1, 1}, {4, 5}, {0, Integer.MAX_VALUE}, {Integer.MAX_VALUE, Integer.MAX_VALUE}};
        for (int[] pair : right) {
            Group y = new Group(2);
            y.shutdown(pair[0], pair[1]);
            Check.traceIs(pair[0] + ", " + pair[1], y, "0:7:3 1:7:3");
            Check.cannotBe("a wrong one behind it", y, () -> y.shutdown(1, 0));
        }
    }

    private static void stepAnswers() {
        Group x = new Group(2);
        x.promise(1);
        Check.task(x, 8, 0, 0, 8, 0, 0);
        Check.same("not started", x.step(0), 0);
        x.execute(0, 0);
        Check.same("to an await that blocks", x.step(0), 1);
        Check.same("blocked", x.step(0), 2);
        x.complete(0, 3, 0);
        Check.same("on to its end", x.step(0), 1);
        Check.same("an empty queue", x.step(0), 0);
        x.shutdown(1, 1);
        Check.same("not yet quiet", x.step(0), 0);
        x.advance(2);
        Check.same("terminated by it", x.step(0), 3);
        Check.same("terminated before", x.step(0), 0);
    }

    private static void stepRefused() {
        Group x = new Group(3);
        x.task();
        x.execute(0, 0);
        for (int loop : Check.outside(3)) {
            Check.cannotBe("loop " + loop, x, () -> x.step(loop));
        }
        Check.same("the task has not run by them", x.step(0), 1);
    }

    private static void loop() {
        Group x = new Group(2);
        x.task();
        for (int loop : Check.outside(2)) {
            Check.cannotBe("loop " + loop, x, () -> x.loop(loop, 0));
        }
        for (int what : Check.outside(5)) {
            Check.cannotBe("what " + what, x, () -> x.loop(1, what));
        }
        for (int k = 0; k < 24; k++) {
            x.execute(0, 1);
            x.timer(0, 1, 1);
        }
        for (int left = 15; left >= 0; left--) {
            x.step(1);
            Check.same("left of 16", x.loop(1, 4), left);
        }
        for (int left = 7; left >= 0; left--) {
            x.step(1);
            Check.same("left of 8", x.loop(1, 4), left);
        }
        Check.same("tasks", x.loop(1, 1), 0);
        Check.same("timers", x.loop(1, 2), 24);
        x.step(1);
        Check.same("an empty batch", x.loop(1, 4), 0);
    }

    private static void look() {
        Group x = new Group(1);
        Check.cannotBe("no promise yet", x, () -> x.look(0, 0));
        for (int k = 0; k < 32; k++) {
            x.promise(0);
        }
        for (int promise : Check.outside(32)) {
            Check.cannotBe("promise " + promise, x, () -> x.look(promise, 0));
        }
        for (int what : Check.outside(3)) {
            Check.cannotBe("what " + what, x, () -> x.look(31, what));
        }
        x.task();
        for (int k = 1; k <= 6; k++) {
            x.listen(31, 0);
            Check.same("listeners", x.look(31, 2), k);
        }
        Check.same("the one before has none", x.look(30, 2), 0);
        x.complete(31, 2, 1);
        Check.same("all are notified", x.look(31, 2), 0);
    }

    private static void traced() {
        Group x = new Group(1);
        Check.same("none", x.traced(), 0);
        int eight = Check.task(x, 0, 0, 0, 0, 0, 0, 0, 0, 0, 0, 0, 0, 0, 0, 0, 0, 0, 0, 0, 0, 0, 0, 0, 0);
        for (int k = 1; k <= 120; k++) {
            x.execute(eight, 0);
            x.step(0);
            Check.same("those that are kept no more count", x.traced(), 1 + 9 * k);
        }
    }

    private static void traceCounts() {
        Group x = new Group(1);
        int eight = Check.task(x, 0, 2, 0, 0, 3, 0, 0, 4, 0, 0, 5, 0, 0, 6, 0, 0, 7, 0, 0, 8, 0, 0, 9, 0);
        for (int k = 0; k < 120; k++) {
            x.execute(eight, 0);
            x.step(0);
        }
        for (int k = 1081 - 18; k < 1081 - 9; k++) {
            int place = (k - 1) % 9;
            Check.same("kind of " + k, x.trace(k, 1), place == 0 ? 1 : 0);
            Check.same("value of " + k, x.trace(k, 2), place == 0 ? eight : 1 + place);
        }
        Check.same("the oldest", x.trace(781, 2), 1 + 780 % 9);
        Check.same("the latest", x.trace(1080, 2), 9);
        Check.outOfBounds("behind the latest", () -> x.trace(1081, 2));
        Check.outOfBounds("before the oldest", () -> x.trace(780, 2));
    }

    private static void traceRefused() {
        Group x = new Group(1);
        for (int k : Check.outside(0)) {
            Check.refused("entry " + k + " of none", x, IndexOutOfBoundsException.class, () -> x.trace(k, 0));
        }
        x.execute(x.task(), 0);
        x.step(0);
        Check.same("entry 1", x.trace(1, 1), 1);
        for (int k : Check.outside(2)) {
            Check.refused("entry " + k, x, IndexOutOfBoundsException.class, () -> x.trace(k, 2));
            Check.cannotBe("what 3 of entry " + k, x, () -> x.trace(k, 3));
        }
        for (int what : Check.outside(3)) {
            Check.cannotBe("what " + what, x, () -> x.trace(1, what));
        }
    }
}
