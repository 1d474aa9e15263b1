/** The document's plain sentences, from its first line on: what each word means in an ordinary use. */
final class TermsTest {
    private static final String HOST = "The host's calls: execute, timer, cancel, complete, listen, fire, shutdown do what orders do, "
        + "by the host's thread;";

    public static void main(String[] args) {
        Doc.says("what its threads do goes on only by step(), so that any interleaving can be tried.", TermsTest::onlyByStep);
        Doc.says("so that any interleaving can be tried.", TermsTest::anyInterleaving);
        Doc.says("STATES of a loop: 1 NOT STARTED, 2 STARTED", TermsTest::states);
        Doc.says(", 3 SHUTTING DOWN, 4 SHUT DOWN, 5 TERMINATED.", TermsTest::states);
        Doc.says("The host is a thread of its own.", TermsTest::hostIsNoLoop);
        Doc.says("the host has none of them but by its own calls, which do the same", TermsTest::hostsCalls);
        Doc.says(HOST, TermsTest::hostsCalls);
        Doc.says("0 LOG a.", TermsTest::logOrder);
        Doc.says("3 CANCEL timer a.", TermsTest::cancelTimerOrder);
        Doc.says("4 SUCCEED promise a with the value b. 5 FAIL promise a with b. 6 CANCEL promise a.", TermsTest::completingOrders);
        Doc.says("7 LISTEN: task b at promise a.", TermsTest::listenOrder);
        Doc.says("8 AWAIT promise a.", TermsTest::awaitOrder);
        Doc.says("10 FIRE: message b goes into channel a's pipeline.", TermsTest::fireOrder);
        Doc.says("11 WRITE: message b goes to channel a's peer.", TermsTest::writeOrder);
        Doc.says("12 SHUTDOWN with quiet period a, timeout b.", TermsTest::shutdownOrder);
        Doc.says("13 PIN promise a.", TermsTest::pinOrder);
        Doc.says("THE CHOOSER gives loops 0, 1, .. in turn:", TermsTest::inTurn);
        Doc.says("THE TRACE has what is logged: three numbers each: the loop (-1 the host), a kind, a value:", TermsTest::traceKinds);
        Doc.says("a blocked one whose promise is done goes on with the order behind the await (10 is logged);", TermsTest::awaitOrder);
        Doc.says("(a loop that is shutting down confirms then, see below)", TermsTest::states);
        Doc.says("are 0 PENDING, 1 SUCCEEDED, 2 FAILED, 3 CANCELLED, with a value (0 when cancelled).", TermsTest::completed);
        Doc.says("Completes a promise: how 1, 2, 3, 4 pins it: whether it was so", TermsTest::completed);
        Doc.says("One more handler (kind 0 .. 6, of kind 4 with a task) at the end of a channel's pipeline, or taken away:",
            TermsTest::handlers);
        Doc.says("Fires a message at a channel.", TermsTest::fires);
        Doc.says("Of a loop 0 its state, 1 tasks in its queue, 2 timers, 3 whether it is blocked (1, 0), 4 how many of its batch are left.",
            TermsTest::askedOfALoop);
        Doc.says("Of a promise 0 its state, 1 its value, 2 how many listeners wait.", TermsTest::askedOfAPromise);
        Doc.says("Of entry k of the trace 0 the loop, 1 the kind, 2 the value.", TermsTest::askedOfTheTrace);
        Doc.says("IllegalArgumentException, IllegalStateException: as said.", TermsTest::asSaid);
        Doc.says("`LoopGroup(int n)`: n loops (1 .. 8; others: 1).", TermsTest::eachForItself);
        Check.end();
    }

    /** What the orders of a new task log on a loop, behind the task's beginning. */
    private static String done(Group x, int loop, int... orders) {
        int task = Check.task(x, orders);
        x.execute(task, loop);
        int from = x.traced();
        x.step(loop);
        return Check.trace(x, from + 1);
    }

    private static void onlyByStep() {
        Group x = new Group(2);
        int task = Check.task(x, 0, 1, 0);
        x.promise(1);
        x.channels(0, 1);
        x.listen(0, task);
        x.execute(task, 0);
        x.timer(task, 0, 0);
        x.fire(1, 4);
        x.complete(0, 1, 2);
        x.advance(1000);
        Check.traceIs("the host's calls let nothing run", x, "0:7:2 -1:9:0 1:7:2");
        x.step(1);
        Check.traceIs("a step is one loop's", x, 3, "1:1:-1 1:8:4");
        x.step(0);
        x.step(1);
        x.step(0);
        Check.traceIs("and one thing of its queue", x, 5, "0:1:0 0:0:1 1:5:0 1:0:1 0:1:0 0:0:1");
    }

    private static void anyInterleaving() {
        int[][] turns = {{0, 0, 1, 1}, {0, 1, 0, 1}, {0, 1, 1, 0}, {1, 0, 0, 1}, {1, 0, 1, 0}, {1, 1, 0, 0}};
        for (int[] turn : turns) {
            Group x = new Group(2);
            Check.task(x, 0, 10, 0);
            Check.task(x, 0, 20, 0);
            StringBuilder due = new StringBuilder("0:7:2 1:7:2");
            int[] begun = new int[2];
            for (int loop = 0; loop < 2; loop++) {
                x.execute(0, loop);
                x.execute(1, loop);
            }
            for (int loop : turn) {
                Check.same("something ran", x.step(loop), 1);
                due.append(' ').append(loop).append(":1:").append(begun[loop]);
                due.append(' ').append(loop).append(":0:").append(10 + 10 * begun[loop]);
                begun[loop]++;
            }
            Check.traceIs("as the steps came", x, due.toString());
        }
    }

    private static void states() {
        Group x = new Group(3);
        x.task();
        Check.same("not started", x.loop(0, 0), 1);
        x.execute(0, 0);
        x.timer(0, 5, 1);
        Check.same("started by a task", x.loop(0, 0), 2);
        Check.same("started by a timer", x.loop(1, 0), 2);
        x.shutdown(1, 9);
        for (int loop = 0; loop < 3; loop++) {
            Check.same("shutting down", x.loop(loop, 0), 3);
        }
        Check.same("a task first", x.step(0), 1);
        Check.same("with an empty queue it confirms: not yet", x.step(0), 0);
        x.advance(2);
        Check.same("now", x.step(0), 3);
        Check.same("terminated", x.loop(0, 0), 5);
        Check.same("the others by steps of their own", x.loop(1, 0), 3);
        Check.traceIs("one after the other", x, "0:7:2 1:7:2 -1:9:0 0:7:3 1:7:3 2:7:3 0:1:0 0:7:4 0:7:5");
    }

    private static void hostIsNoLoop() {
        for (int n = 1; n <= 8; n++) {
            Group x = new Group(n);
            x.task();
            x.promise(n - 1);
            x.channels(n - 1, n - 1);
            x.listen(0, 0);
            x.complete(0, 1, 0);
            x.listen(0, 0);
            x.fire(0, 4);
            Check.same("a listener, another and a message wait: nothing is done now", x.loop(n - 1, 1), 3);
            Check.traceIs("nothing ran", x, (n - 1) + ":7:2");
        }
    }

    private static void hostsCalls() {
        Group x = new Group(2);
        int log = Check.task(x, 0, 5, 0);
        x.promise(0);
        x.channels(0, 1);
        Check.same("timer", x.timer(log, 3, 0), 0);
        Check.same("cancel", x.cancel(0), true);
        Check.same("execute", x.execute(log, 1), 1);
        x.listen(0, log);
        Check.same("complete", x.complete(0, 2, 8), true);
        x.fire(0, 6);
        x.shutdown(0, 0);
        Check.traceIs("by the host", x, "0:7:2 -1:9:0 1:7:2 0:7:3 1:7:3");
        Check.same("a timer by the loops", done(x, 1, 2, log, 3, 0, 9, 0), "1:0:5");
        Check.same("is rejected", done(x, 0, 0, 1, 0), "0:0:5");
        x.step(1);
        x.step(0);
        x.step(0);
        Check.traceIs("then all that waits", x, 9, "1:1:1 1:4:0 1:0:9 0:1:-1 0:8:6 0:1:2 0:0:1");
    }

    private static void logOrder() {
        Group x = new Group(2);
        Check.same("a alone", done(x, 1, 0, 17, 99, 0, -4, 99), "1:0:17 1:0:-4");
    }

    private static void cancelTimerOrder() {
        Group x = new Group(2);
        x.task();
        x.timer(0, 1, 1);
        x.timer(0, 1, 1);
        x.promise(0);
        Check.same("nothing is logged", done(x, 0, 3, 1, 0), "");
        Check.same("timer 1 went", x.cancel(1), false);
        Check.same("timer 0 is there", x.cancel(0), true);
        Check.same("promise 0 is as it was", x.look(0, 0), 0);
    }

    private static void completingOrders() {
        Group x = new Group(2);
        for (int k = 0; k < 4; k++) {
            x.promise(k % 2);
        }
        Check.same("nothing is logged", done(x, 0, 6, 3, 30, 5, 2, 20, 4, 1, 10), "");
        int[][] due = {{0, 0}, {1, 10}, {2, 20}, {3, 0}};
        for (int k = 0; k < 4; k++) {
            Check.same("state of " + k, x.look(k, 0), due[k][0]);
            Check.same("value of " + k, x.look(k, 1), due[k][1]);
        }
    }

    private static void listenOrder() {
        Group x = new Group(2);
        x.promise(1);
        x.promise(1);
        Check.task(x, 0, 40, 0);
        Check.task(x, 0, 41, 0);
        Check.same("nothing is logged", done(x, 0, 7, 0, 1), "");
        Check.same("it waits at promise 0", x.look(0, 2), 1);
        Check.same("none at promise 1", x.look(1, 2), 0);
        Check.same("task 1 on the executor's own thread", done(x, 1, 4, 0, 0), "1:5:1 1:0:41");
    }

    private static void awaitOrder() {
        Group x = new Group(2);
        x.promise(0);
        x.promise(1);
        Check.same("as far as the await", done(x, 0, 0, 1, 0, 8, 1, 0, 0, 2, 0), "0:0:1");
        Check.same("blocked", x.loop(0, 3), 1);
        x.complete(0, 1, 0);
        Check.same("by promise 1", x.step(0), 2);
        x.complete(1, 2, 0);
        Check.same("blocked until it steps", x.loop(0, 3), 1);
        int from = x.traced();
        Check.same("it goes on", x.step(0), 1);
        Check.traceIs("behind the await", x, from, "0:10:1 0:0:2");
        Check.same("not blocked", x.loop(0, 3), 0);
    }

    private static void fireOrder() {
        Group x = new Group(2);
        x.channels(0, 0);
        x.handler(0, 0, 0, -1);
        x.handler(1, 0, 0, -1);
        Check.same("channel 1's pipeline", done(x, 0, 10, 1, 5), "0:6:1000005 0:8:5");
    }

    private static void writeOrder() {
        Group x = new Group(2);
        x.channels(0, 0);
        x.handler(0, 0, 0, -1);
        x.handler(1, 0, 0, -1);
        Check.same("channel 1's peer is 0", done(x, 0, 11, 1, 5), "0:6:5 0:8:5");
        Check.same("channel 0's peer is 1", done(x, 0, 11, 0, 6), "0:6:1000006 0:8:6");
    }

    private static void shutdownOrder() {
        Group x = new Group(2);
        x.advance(50);
        Check.same("all loops", done(x, 0, 12, 3, 8), "0:7:3 1:7:3");
        x.advance(3);
        Check.same("the quiet period is 3", x.step(1), 0);
        x.advance(1);
        Check.same("more than 3", x.step(1), 3);
        Group y = new Group(2);
        int log = Check.task(y, 0, 1, 0);
        done(y, 0, 12, 3, 8);
        for (int time = 2; time <= 8; time += 2) {
            y.advance(2);
            y.execute(log, 1);
            y.step(1);
            Check.same("busy at " + time, y.step(1), 0);
        }
        y.advance(1);
        Check.same("the timeout is 8", y.step(1), 3);
    }

    private static void pinOrder() {
        Group x = new Group(1);
        x.promise(0);
        x.promise(0);
        Check.same("nothing is logged", done(x, 0, 13, 1, 0), "");
        Check.same("0 can be cancelled", x.complete(0, 3, 0), true);
        Check.same("1 can't", x.complete(1, 3, 0), false);
        Check.same("1 can succeed", x.complete(1, 1, 6), true);
    }

    private static void inTurn() {
        for (int n = 1; n <= 8; n++) {
            Group x = new Group(n);
            int task = x.task();
            for (int c = 0; c < 24; c++) {
                Check.same("of " + n + " loops", x.execute(task, -2), c % n);
            }
        }
    }

    private static void traceKinds() {
        Group x = new Group(2);
        x.promise(0);
        x.promise(1);
        x.channels(0, 1);
        Doc.says("0 LOG (a), 1 a task BEGINS (its number), 2 it threw (its number)", () -> {
            int from = x.traced();
            int task = Check.task(x, 0, 33, 0, 9, 0, 0);
            x.execute(task, 0);
            x.step(0);
            Check.traceIs("a task", x, from, "0:7:2 0:1:0 0:0:33 0:2:0");
        });
        Doc.says("3 BLOCKING: an await that is refused (the promise)", () -> Check.same("3", done(x, 0, 8, 0, 0), "0:3:0"));
        Doc.says("5 a listener begins (its task)", () -> {
            x.listen(0, 0);
            Check.same("5", done(x, 0, 4, 0, 0), "0:5:0 0:0:33 0:2:0");
        });
        Doc.says("8 a message reached a pipeline's end unhandled (it)", () -> Check.same("8", done(x, 0, 10, 0, 77), "0:8:77"));
        Doc.says("9 a timer was made (its number)", () -> {
            Check.same("9", done(x, 0, 2, 1, 500, 2, 1, 500), "0:9:0 0:9:1");
            Check.same("by the host", x.timer(1, 500, 0), 2);
            Check.traceIs("-1", x, x.traced() - 1, "-1:9:2");
        });
        Doc.says("10 an await is over (the promise)", () -> {
            Check.same("it blocks", done(x, 0, 8, 1, 0), "");
            x.complete(1, 3, 0);
            x.step(0);
            Check.traceIs("10", x, x.traced() - 1, "0:10:1");
        });
    }

    private static void completed() {
        Group x = new Group(1);
        for (int how = 1; how <= 4; how++) {
            int promise = x.promise(0);
            Check.same("pending", x.look(promise, 0), 0);
            Check.same("it was so", x.complete(promise, how, 9), true);
            Check.same("state by " + how, x.look(promise, 0), how == 4 ? 0 : how);
            Check.same("value by " + how, x.look(promise, 1), how < 3 ? 9 : 0);
            for (int again = 1; again <= 3 && how < 4; again++) {
                Check.same("no more", x.complete(promise, again, 5), false);
                Check.same("it stays", x.look(promise, 0), how);
            }
        }
    }

    private static void handlers() {
        Group x = new Group(1);
        int task = Check.task(x, 0, 3, 0);
        x.channels(0, 0);
        for (int kind = 0; kind < 6; kind++) {
            Check.same("kind " + kind, x.handler(1, kind, task, -1), kind);
        }
        Check.same("kind 6", x.handler(0, 6, 24, -1), 6);
        x.fire(1, 4);
        x.step(0);
        Check.traceIs("in their order", x,
            "0:7:2 0:1:-1 0:6:4 0:6:1000004 0:6:2000005");
        Check.same("the one that swallows goes", x.handler(1, 0, 0, 2), 2);
        x.fire(1, 4);
        int from = x.traced();
        x.step(0);
        Check.traceIs("the others, an echo at the peer within them", x, from,
            "0:1:-1 0:6:4 0:6:1000004 0:6:3000005 0:8:5 0:6:4000005 0:0:3 0:6:5000005 0:8:5");
    }

    private static void fires() {
        Group x = new Group(2);
        x.channels(1, 0);
        x.fire(0, 12);
        x.fire(1, 13);
        x.step(0);
        x.step(1);
        Check.traceIs("each on its loop", x, "1:7:2 0:7:2 0:1:-1 0:8:13 1:1:-1 1:8:12");
    }

    private static void eachForItself() {
        Group x = new Group(2);
        Group y = new Group(2);
        long before = Inside.all(y);
        Check.task(x, 0, 1, 0, 2, 0, 5);
        x.promise(0);
        x.channels(0, 1);
        x.handler(0, 0, 0, -1);
        x.advance(9);
        x.execute(0, -2);
        x.step(0);
        x.shutdown(0, 0);
        Check.same("one object's calls leave another as it was", Inside.all(y), before);
        Check.task(y, 0, 1, 0);
        Check.same("its chooser begins with 0", y.execute(0, -2), 0);
        Check.same("its clock at 0", y.advance(1), 1);
    }

    private static void askedOfALoop() {
        Group x = new Group(2);
        x.promise(0);
        int task = Check.task(x, 8, 0, 0);
        for (int k = 0; k < 4; k++) {
            x.execute(task, 1);
        }
        x.timer(task, 7, 1);
        x.timer(task, 7, 1);
        x.step(1);
        x.execute(task, 1);
        int[] due = {2, 4, 2, 1, 3};
        for (int what = 0; what < due.length; what++) {
            Check.same("what " + what, x.loop(1, what), due[what]);
            Check.same("what " + what + " of the other loop", x.loop(0, what), what == 0 ? 1 : 0);
        }
    }

    private static void askedOfAPromise() {
        Group x = new Group(1);
        x.promise(0);
        x.promise(0);
        int task = x.task();
        x.listen(1, task);
        x.listen(1, task);
        x.complete(0, 2, 31);
        int[][] due = {{2, 31, 0}, {0, 0, 2}};
        for (int promise = 0; promise < 2; promise++) {
            for (int what = 0; what < 3; what++) {
                Check.same("promise " + promise + ", what " + what, x.look(promise, what), due[promise][what]);
            }
        }
    }

    private static void askedOfTheTrace() {
        Group x = new Group(3);
        int task = Check.task(x, 0, 55, 0);
        x.execute(task, 2);
        x.step(2);
        int[][] due = {{2, 7, 2}, {2, 1, 0}, {2, 0, 55}};
        for (int k = 0; k < 3; k++) {
            for (int what = 0; what < 3; what++) {
                Check.same("entry " + k + ", what " + what, x.trace(k, what), due[k][what]);
            }
        }
    }

    private static void asSaid() {
        Group x = new Group(2);
        x.task();
        Check.cannotBe("execute: no such task", x, () -> x.execute(1, 0));
        Check.cannotBe("execute: no such loop", x, () -> x.execute(0, 2));
        Check.cannotBe("execute: -1 is of orders alone", x, () -> x.execute(0, -1));
        Check.cannotBe("timer: no such task", x, () -> x.timer(1, 0, 0));
        Check.cannotBe("timer: no such loop", x, () -> x.timer(0, 0, 2));
        Check.cannotBe("timer: a time below 0", x, () -> x.timer(0, -1, 0));
        for (int k = 0; k < 24; k++) {
            x.execute(0, 1);
            x.timer(0, 5, 1);
        }
        Check.rejected("execute: the queue is full", x, 0, () -> x.execute(0, 1));
        Check.rejected("timer: 24 wait", x, 0, () -> x.timer(0, 5, 1));
    }
}
