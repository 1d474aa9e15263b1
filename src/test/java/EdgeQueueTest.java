import java.util.Set;

/** The edges that the document's terms name: queues, timers, steps, batches and the work of a step. */
final class EdgeQueueTest {
    private static final String QUEUE = "EXECUTE puts a task to the end of a loop's QUEUE (at most 24 tasks: otherwise REJECTED; "
        + "rejected, too, by a loop that is shut down or terminated).";
    private static final String NUMBERS = "TIMERS that are not rejected have numbers 0, 1, .. in the order in which they were made "
        + "(at most 400 ever: more are rejected)";
    private static final String WAITING = "and wait at their loop (at most 24 there: rejected otherwise; "
        + "by a loop that is shutting down or more: rejected, too).";
    private static final String BATCH = "all timers whose deadline is not above the clock go to the queue's end, "
        + "in the order of deadlines, then numbers (as long as there is room; the others stay)";
    private static final String WORK = "In one step at most 1,000 orders are done (each by whatever task, a refused one too) "
        + "and echoes written together: an order more is a THROW, an echo more is not written.";

    public static void main(String[] args) {
        Doc.says(QUEUE, EdgeQueueTest::queueByTheHost);
        Doc.says(QUEUE, EdgeQueueTest::queueByOrders);
        Doc.says(QUEUE, EdgeQueueTest::queueOfAllKinds);
        Doc.says(QUEUE, EdgeQueueTest::queueGoesRound);
        Doc.says("A rejected execute is no throw: the orders go on.", EdgeQueueTest::rejectedGoesOn);
        Doc.says(NUMBERS, EdgeQueueTest::timerNumbers);
        Doc.says(NUMBERS, EdgeQueueTest::timersEver);
        Doc.says(WAITING, EdgeQueueTest::timersAtALoop);
        Doc.says(WAITING, EdgeQueueTest::timersOfTheEnd);
        Doc.says("CANCEL of a timer that waits takes it away; of others it does nothing.", EdgeQueueTest::cancelled);
        Doc.says("one of a loop that is not started, or terminated, does nothing;", EdgeQueueTest::stepsOfNothing);
        Doc.says("With an empty queue nothing runs", EdgeQueueTest::emptyQueue);
        Doc.says("while it is not done the step does nothing.", EdgeQueueTest::blockedDoesNothing);
        Doc.says("goes on with the order behind the await (10 is logged)", EdgeQueueTest::behindTheLast);
        Doc.says("when the BATCH is over, a new one begins", EdgeQueueTest::batchIsOver);
        Doc.says(BATCH, EdgeQueueTest::dueTimers);
        Doc.says(BATCH, EdgeQueueTest::dueTimersInOrder);
        Doc.says(BATCH, EdgeQueueTest::roomForTimers);
        Doc.says("the batch is what is in the queue, at most 16.", EdgeQueueTest::batchSizes);
        Doc.says("Then the first task of the queue runs, to its end or to an await that blocks.", EdgeQueueTest::oneAStep);
        Doc.says(WORK, EdgeQueueTest::work);
        Doc.says("All memory is rows made once.", EdgeQueueTest::memory);
        Check.end();
    }

    private static void executes(Group x, int task, int loop, int times) {
        for (int k = 0; k < times; k++) {
            x.execute(task, loop);
        }
    }

    private static void steps(Group x, int loop, int times) {
        for (int k = 0; k < times; k++) {
            x.step(loop);
        }
    }

    private static void queueByTheHost() {
        Group x = new Group(2);
        x.task();
        executes(x, 0, 0, 23);
        Check.same("the 24th", x.execute(0, 0), 0);
        Check.rejected("the 25th", x, 0, () -> x.execute(0, 0));
        Check.same("another loop has its own", x.execute(0, 1), 1);
        x.step(0);
        Check.same("room for one", x.execute(0, 0), 0);
        Check.rejected("not for two", x, 0, () -> x.execute(0, 0));
        Group y = new Group(1);
        y.task();
        y.shutdown(0, 0);
        executes(y, 0, 0, 24);
        Check.rejected("the 25th of one that is shutting down", y, 0, () -> y.execute(0, 0));
        steps(y, 0, 24);
        Check.same("shutting down until it confirms", y.execute(0, 0), 0);
        y.step(0);
        y.step(0);
        Check.rejected("terminated, empty as it is", y, 0, () -> y.execute(0, 0));
    }

    private static void queueByOrders() {
        Group x = new Group(2);
        Check.task(x, 1, 1, 1, 1, 1, 1, 1, 1, 1, 1, 1, 1, 1, 1, 1, 1, 1, 1, 1, 1, 1, 1, 1, 1);
        x.task();
        executes(x, 0, 0, 4);
        steps(x, 0, 3);
        Check.same("24", x.loop(1, 1), 24);
        int from = x.traced();
        x.step(0);
        Check.traceIs("more", x, from, "0:1:0 0:4:1 0:4:1 0:4:1 0:4:1 0:4:1 0:4:1 0:4:1 0:4:1");
        Check.same("24 still", x.loop(1, 1), 24);
        steps(x, 1, 24);
        x.shutdown(0, 0);
        Check.same("the other ends", x.step(1), 3);
        x.execute(0, 0);
        from = x.traced();
        x.step(0);
        Check.traceIs("terminated", x, from, "0:1:0 0:4:1 0:4:1 0:4:1 0:4:1 0:4:1 0:4:1 0:4:1 0:4:1");
        Check.same("none came", x.loop(1, 1), 0);
    }

    private static void queueOfAllKinds() {
        Group x = new Group(1);
        x.task();
        x.task();
        x.promise(0);
        x.complete(0, 1, 0);
        x.channels(0, 0);
        for (int k = 0; k < 6; k++) {
            x.timer(1, 0, 0);
        }
        for (int k = 0; k < 6; k++) {
            x.execute(0, 0);
            x.fire(0, k);
            x.listen(0, 0);
        }
        Check.same("timers are not in it yet", x.loop(0, 1), 18);
        x.step(0);
        Check.same("now they are", x.loop(0, 1), 23);
        x.execute(0, 0);
        Check.rejected("a task", x, 1, () -> x.execute(1, 0));
        Check.rejected("a message", x, -1, () -> x.fire(1, 1));
        int from = x.traced();
        x.listen(0, 1);
        Check.traceIs("a listener", x, from, "-1:4:1");
        from = x.traced();
        steps(x, 0, 24);
        Check.traceIs("first in, first out", x, from, "0:1:-1 0:8:0 0:5:0 0:1:0 0:1:-1 0:8:1 0:5:0 0:1:0 0:1:-1 0:8:2 0:5:0 "
            + "0:1:0 0:1:-1 0:8:3 0:5:0 0:1:0 0:1:-1 0:8:4 0:5:0 0:1:0 0:1:-1 0:8:5 0:5:0 "
            + "0:1:1 0:1:1 0:1:1 0:1:1 0:1:1 0:1:1 0:1:0");
    }

    private static void queueGoesRound() {
        Group x = new Group(1);
        for (int k = 0; k < 24; k++) {
            x.task();
        }
        for (int k = 0; k < 23; k++) {
            x.execute(k, 0);
        }
        for (int k = 23; k < 23 + 60; k++) {
            x.execute(k % 24, 0);
            Check.same("full", x.loop(0, 1), 24);
            x.step(0);
            Check.same("the first began", x.trace(x.traced() - 1, 2), (k - 23) % 24);
        }
    }

    private static void rejectedGoesOn() {
        Group x = new Group(2);
        Check.task(x, 0, 1, 0, 1, 1, 1, 0, 2, 0, 1, 1, 1, 0, 3, 0);
        x.task();
        executes(x, 1, 1, 23);
        x.execute(0, 0);
        x.step(0);
        Check.traceIs("behind it", x, 2, "0:1:0 0:0:1 0:0:2 0:4:1 0:0:3");
    }

    private static void timerNumbers() {
        Group x = new Group(2);
        int task = Check.task(x, 2, 0, 50, 2, 0, 50);
        Check.same("0", x.timer(task, 5, 1), 0);
        x.execute(task, 0);
        x.step(0);
        Check.same("behind an order's two", x.timer(task, 5, 1), 3);
        for (int number = 4; number < 26; number++) {
            x.timer(task, 5, 1);
        }
        Check.rejected("a 25th there", x, 0, () -> x.timer(task, 5, 1));
        Check.same("a rejected one has none", x.timer(task, 5, 0), 26);
        x.cancel(26);
        Check.same("a cancelled one's is not given again", x.timer(task, 5, 0), 27);
    }

    private static void timersEver() {
        Group x = new Group(8);
        int eight = ManyTimers.make(x);
        int made = ManyTimers.MADE;
        Check.same("by the host", x.timer(eight, 9, 6), made);
        x.cancel(made);
        int three = Check.task(x, 2, eight, 9, 2, eight, 9, 2, eight, 9);
        x.execute(three, 6);
        x.execute(three, 6);
        x.execute(three, 6);
        x.step(6);
        x.step(6);
        int from = x.traced();
        x.step(6);
        Check.traceIs("the 400th, and two more by orders", x, from, "6:1:1 6:9:399 6:4:0 6:4:0");
        Check.rejected("one more by the host", x, 1, () -> x.timer(three, 9, 6));
        Check.rejected("on a loop that is not started", x, 1, () -> x.timer(three, 9, 7));
        Check.same("seven wait there", x.loop(6, 2), 7);
    }

    private static void timersAtALoop() {
        Group x = new Group(2);
        Check.task(x, 2, 1, 9, 2, 1, 9, 0, 5, 0);
        x.task();
        for (int k = 0; k < 23; k++) {
            x.timer(1, 9, 0);
        }
        x.execute(0, 0);
        int from = x.traced();
        x.step(0);
        Check.traceIs("the 24th, and one more by orders", x, from, "0:1:0 0:9:23 0:4:1 0:0:5");
        Check.rejected("one more by the host", x, 1, () -> x.timer(1, 9, 0));
        Check.same("another loop has its own", x.timer(1, 9, 1), 24);
        x.cancel(0);
        Check.same("room again", x.timer(1, 9, 0), 25);
        x.advance(9);
        x.step(0);
        Check.same("those in the queue wait no more", x.loop(0, 2), 0);
        for (int number = 26; number < 50; number++) {
            Check.same("room for all", x.timer(1, 9, 0), number);
        }
        Check.rejected("and not for more", x, 1, () -> x.timer(1, 9, 0));
    }

    private static void timersOfTheEnd() {
        Group x = new Group(2);
        Check.task(x, 2, 0, 0, 0, 5, 0);
        x.execute(0, 0);
        x.shutdown(3, 3);
        Check.rejected("shutting down", x, 0, () -> x.timer(0, 0, 0));
        Check.rejected("shutting down without a start", x, 0, () -> x.timer(0, 0, 1));
        int from = x.traced();
        x.step(0);
        Check.traceIs("by an order", x, from, "0:1:0 0:4:0 0:0:5");
        x.advance(4);
        x.step(1);
        Check.rejected("terminated", x, 0, () -> x.timer(0, 0, 1));
    }

    private static void cancelled() {
        Group x = new Group(2);
        int task = Check.task(x, 3, 0, 0, 3, 0, 0, 3, 1, 0, 3, 2, 0, 0, 5, 0);
        x.task();
        x.timer(1, 1, 1);
        x.timer(1, 1, 0);
        x.timer(1, 9, 0);
        x.timer(1, 9, 0);
        x.advance(1);
        x.execute(task, 0);
        x.execute(task, 0);
        int from = x.traced();
        x.step(0);
        Check.traceIs("orders", x, from, "0:1:0 0:0:5");
        Check.same("the other loop's is gone", x.loop(1, 2), 0);
        Check.same("it does not run", x.step(1), 0);
        Check.same("the last one is left", x.loop(0, 2), 1);
        from = x.traced();
        x.step(0);
        x.step(0);
        Check.traceIs("of those that are gone it does nothing; one in the queue runs", x, from, "0:1:0 0:0:5 0:1:1");
        x.promise(0);
        x.promise(0);
        x.execute(task, 1);
        x.step(1);
        Check.same("promises of these numbers are none of its business", x.look(0, 0) + x.look(1, 0), 0);
        Check.same("nor does the host's", x.cancel(0) || x.cancel(1) || x.cancel(2), false);
        Check.same("but of one that waits", x.cancel(3), true);
    }

    private static void stepsOfNothing() {
        Group x = new Group(2);
        x.task();
        long before = Inside.all(x);
        Check.same("not started", x.step(0), 0);
        Check.same("all is as it was", Inside.all(x), before);
        x.shutdown(0, 0);
        Check.same("terminated", x.step(0), 3);
        x.advance(5);
        before = Inside.all(x);
        Check.same("a step more", x.step(0), 0);
        Check.same("all is as it was then", Inside.all(x), before);
    }

    private static void emptyQueue() {
        Group x = new Group(1);
        x.task();
        x.timer(0, 5, 0);
        int from = x.traced();
        Check.same("a timer that is not due", x.step(0), 0);
        Check.same("nothing is logged", x.traced(), from);
        Check.same("no batch", x.loop(0, 4), 0);
        Check.same("started", x.loop(0, 0), 2);
        x.cancel(0);
        x.advance(5);
        Check.same("nothing at all", x.step(0), 0);
        x.execute(0, 0);
        Check.same("a task", x.step(0), 1);
        Check.same("and nothing again", x.step(0), 0);
    }

    private static void blockedDoesNothing() {
        Group x = new Group(2);
        x.promise(1);
        Check.task(x, 8, 0, 0);
        x.task();
        x.execute(0, 0);
        x.step(0);
        x.execute(1, 0);
        x.timer(1, 0, 0);
        x.timer(1, 1, 0);
        x.advance(7);
        int traced = x.traced();
        Check.same("blocked", x.step(0), 2);
        Check.same("nothing is logged", x.traced(), traced);
        Check.same("nothing leaves the queue", x.loop(0, 1), 1);
        Check.same("no timer goes there", x.loop(0, 2), 2);
        long before = Inside.all(x);
        Check.same("blocked still", x.step(0), 2);
        Check.same("all is as it was", Inside.all(x), before);
        x.complete(0, 1, 0);
        Check.same("it goes on", x.step(0), 1);
        Check.same("no batch began with that", x.loop(0, 4), 0);
        Check.same("the timers wait", x.loop(0, 2), 2);
        int from = x.traced();
        steps(x, 0, 4);
        Check.traceIs("then all of them", x, from, "0:1:1 0:1:1 0:1:1");
    }

    private static void behindTheLast() {
        Group x = new Group(2);
        x.promise(1);
        Check.task(x, 0, 1, 0, 0, 2, 0, 0, 3, 0, 0, 4, 0, 0, 5, 0, 0, 6, 0, 0, 7, 0, 8, 0, 0);
        x.task();
        x.execute(0, 0);
        x.step(0);
        x.complete(0, 1, 0);
        int from = x.traced();
        Check.same("something ran", x.step(0), 1);
        Check.traceIs("the await was its 8th order", x, from, "0:10:0");
        Check.same("not blocked", x.loop(0, 3), 0);
        Check.same("nothing more", x.step(0), 0);
        eachLoopItsOwn();
    }

    private static void eachLoopItsOwn() {
        Group x = new Group(3);
        x.promise(2);
        Check.task(x, 0, 1, 0);
        Check.task(x, 0, 2, 0, 8, 0, 0, 0, 3, 0);
        Check.task(x, 8, 0, 0, 0, 4, 0);
        x.execute(1, 0);
        x.execute(2, 1);
        x.step(0);
        x.step(1);
        x.complete(0, 1, 0);
        int from = x.traced();
        x.step(1);
        x.step(0);
        Check.traceIs("the task that it was in", x, from, "1:10:0 1:0:4 0:10:0 0:0:3");
    }

    private static void batchIsOver() {
        Group x = new Group(1);
        x.task();
        x.task();
        executes(x, 0, 0, 2);
        x.step(0);
        x.timer(1, 0, 0);
        executes(x, 0, 0, 1);
        x.step(0);
        Check.same("the second of two", x.loop(0, 4), 0);
        Check.same("the timer waits until the batch is over", x.loop(0, 2), 1);
        int from = x.traced();
        x.step(0);
        Check.same("a new one of the task and the timer, one began", x.loop(0, 4), 1);
        x.step(0);
        Check.traceIs("the task came first", x, from, "0:1:0 0:1:1");
    }

    private static void dueTimers() {
        Group x = new Group(1);
        for (int k = 0; k < 4; k++) {
            x.task();
        }
        x.advance(100);
        x.timer(0, 0, 0);
        x.timer(1, 9, 0);
        x.timer(2, 10, 0);
        x.timer(3, 11, 0);
        x.advance(10);
        int from = x.traced();
        steps(x, 0, 5);
        Check.traceIs("at the clock and below it", x, from, "0:1:0 0:1:1 0:1:2");
        Check.same("one above it waits", x.loop(0, 2), 1);
        x.advance(1);
        steps(x, 0, 1);
        Check.traceIs("now it is due", x, from + 3, "0:1:3");
    }

    private static void dueTimersInOrder() {
        Group x = new Group(1);
        int[] delays = {7, 7, 0, 3, 7, 3, 0, 9};
        for (int k = 0; k < delays.length; k++) {
            x.task();
            x.timer(k, delays[k], 0);
        }
        x.cancel(3);
        x.timer(3, 3, 0);
        x.advance(9);
        x.execute(7, 0);
        int from = x.traced();
        steps(x, 0, 10);
        Check.traceIs("behind the queue, deadlines, then numbers", x, from,
            "0:1:7 0:1:2 0:1:6 0:1:5 0:1:3 0:1:0 0:1:1 0:1:4 0:1:7");
    }

    private static void roomForTimers() {
        for (int room = 0; room <= 3; room++) {
            Group x = new Group(1);
            x.task();
            for (int k = 0; k < 3; k++) {
                x.timer(0, 3 - k, 0);
            }
            x.advance(3);
            executes(x, 0, 0, 24 - room);
            x.step(0);
            Check.same("those without room stay", x.loop(0, 2), 3 - room);
            Check.same("the queue", x.loop(0, 1), 23);
            for (int k = 0; k < 3; k++) {
                Check.same("the latest deadlines are those", x.cancel(k), k < 3 - room);
            }
        }
    }

    private static void batchSizes() {
        for (int size : new int[] {1, 2, 15, 16, 17, 24}) {
            Group x = new Group(1);
            x.task();
            executes(x, 0, 0, size);
            x.step(0);
            Check.same("left of " + size, x.loop(0, 4), Math.min(size, 16) - 1);
            executes(x, 0, 0, 1);
            Check.same("what comes later is not of it", x.loop(0, 4), Math.min(size, 16) - 1);
        }
        Group y = new Group(1);
        y.task();
        executes(y, 0, 0, 15);
        y.timer(0, 0, 0);
        y.timer(0, 0, 0);
        y.step(0);
        Check.same("15 and two timers", y.loop(0, 4), 15);
        Check.same("the 17th is in the queue", y.loop(0, 1), 16);
        Check.same("it is not a timer any more", y.loop(0, 2), 0);
    }

    private static void oneAStep() {
        Group x = new Group(2);
        x.promise(1);
        Check.task(x, 0, 1, 0, 8, 0, 0, 0, 2, 0);
        x.execute(0, 0);
        x.execute(0, 0);
        x.step(0);
        Check.traceIs("to the await", x, "0:7:2 0:1:0 0:0:1");
        x.complete(0, 1, 0);
        x.step(0);
        Check.traceIs("to its end, and not the next one", x, 3, "0:10:0 0:0:2");
        x.step(0);
        Check.traceIs("the next one whole", x, 5, "0:1:0 0:0:1 0:0:2");
    }

    /**
     * Task 0 fires eight messages at channel 0, whose first five handlers run a task of eight orders: 328 orders;
     * channel 2 runs it three times, and then `logs` orders more by two tasks: 984 + logs.
     */
    private static Group busy(int logs) {
        return filled(new Group(2), logs, new int[0]);
    }

    /** The same behind a handler of a kind, the first of channel 2. */
    private static Group busyBehind(int kind, int logs) {
        return filled(new Group(2), logs, new int[] {kind});
    }

    private static Group filled(Group x, int logs, int[] before) {
        x.channels(0, 1);
        x.channels(0, 1);
        for (int task = 0; task < 4; task++) {
            x.task();
        }
        for (int k = 0; k < 8; k++) {
            x.order(0, 10, 0, 2);
            x.order(1, 8, 0, 0);
        }
        x.promise(0);
        for (int k = 0; k < logs; k++) {
            x.order(k < 8 ? 2 : 3, 0, 50 + k, 0);
        }
        for (int k = 0; k < 5; k++) {
            x.handler(0, 4, 1, -1);
        }
        for (int kind : before) {
            x.handler(2, kind, 0, -1);
        }
        for (int task : new int[] {0, 0, 0, 2, 3}) {
            x.handler(2, 4, task, -1);
        }
        return x;
    }

    private static String lastOf(Group x, int entries) {
        x.fire(2, 4);
        x.step(0);
        return Check.trace(x, x.traced() - entries);
    }

    private static void work() {
        Check.same("1,000, refused ones among them", lastOf(busy(16), 3), "0:0:64 0:0:65 0:8:4");
        Group more = busy(16);
        more.handler(2, 4, Check.task(more, 0, 99, 0), -1);
        Check.same("an order more throws", lastOf(more, 4), "0:0:65 0:6:10000004 0:2:4 0:8:4");
        Group none = busy(16);
        none.handler(2, 4, none.task(), -1);
        Check.same("a task of no orders does not", lastOf(none, 3), "0:0:65 0:6:10000004 0:8:4");
        Group echo = busy(15);
        echo.handler(2, 3, 0, -1);
        Check.same("the 1,000th is an echo", lastOf(echo, 4), "0:0:64 0:6:10000004 1:7:2 0:8:4");
        Check.same("an echo and 999 orders", lastOf(busyBehind(3, 15), 3), "0:0:63 0:0:64 0:8:4");
        Check.same("an echo and 1,000 orders", lastOf(busyBehind(3, 16), 3), "0:0:64 0:2:3 0:8:4");
        Check.same("a message that is passed on is no echo", lastOf(busyBehind(0, 16), 3), "0:0:64 0:0:65 0:8:4");
        Group moreEcho = busy(16);
        moreEcho.handler(2, 3, 0, -1);
        Check.same("an echo more", lastOf(moreEcho, 3), "0:0:65 0:6:10000004 0:8:4");
        Check.same("is not written", moreEcho.loop(1, 1), 0);
        moreEcho.execute(2, 0);
        moreEcho.step(0);
        Check.same("the next step has 1,000 of its own", Check.trace(moreEcho, moreEcho.traced() - 2), "0:0:56 0:0:57");
    }

    private static void memory() {
        Group x = new Group(8);
        int objects = Inside.objects(x).size();
        long elements = Inside.elements(x);
        Check.same("few objects: " + objects, objects < 200, true);
        Check.same("few elements: " + elements, elements < 10000, true);
        Set<Object> before = Inside.objects(x);
        ManyTimers.make(x);
        x.promise(0);
        x.channels(0, 1);
        for (int kind = 0; kind < 6; kind++) {
            x.handler(0, kind, 0, -1);
        }
        x.fire(0, 4);
        x.listen(0, 0);
        x.complete(0, 1, 0);
        x.shutdown(1, 1);
        steps(x, 0, 60);
        Check.same("the same objects all the time", Inside.objects(x).equals(before), true);
    }
}
