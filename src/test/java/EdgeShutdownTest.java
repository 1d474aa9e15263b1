/** The edges that the document's terms name: the shutdown, and what the host's calls answer. */
final class EdgeShutdownTest {
    private static final String TIMES = "SHUTDOWN(quiet, timeout) (0 <= quiet <= timeout; otherwise a throw; by order or by the host)";
    private static final String BECOME = "all loops that are not started, or started, become shutting down, with these, START being the "
        + "clock now; those that are already so, or more, stay as they are.";
    private static final String CONFIRMS = "When a step finds its queue empty, it CONFIRMS: when quiet is 0, or more than the timeout "
        + "has gone by since START, or more than quiet since LAST (START when nothing began since), it becomes shut down, and, "
        + "with the same step, terminated; otherwise nothing.";
    private static final String CANNOT = "what can't be is IllegalArgumentException instead of a throw, REJECTED is "
        + "IllegalStateException (and 4 is logged; of listeners that are executed it is not told).";

    public static void main(String[] args) {
        Doc.says(TIMES, EdgeShutdownTest::times);
        Doc.says(BECOME, EdgeShutdownTest::becomes);
        Doc.says(BECOME, EdgeShutdownTest::staysAsItIs);
        Doc.says("all its timers are taken away as soon as it steps (also a blocked one);", EdgeShutdownTest::timersGo);
        Doc.says("it runs tasks as before (others can still be executed);", EdgeShutdownTest::runsAsBefore);
        Doc.says("with each thing that begins from its queue its LAST time is the clock.", EdgeShutdownTest::last);
        Doc.says(CONFIRMS, EdgeShutdownTest::quietIsZero);
        Doc.says(CONFIRMS, EdgeShutdownTest::sinceStart);
        Doc.says(CONFIRMS, EdgeShutdownTest::sinceLast);
        Doc.says(CONFIRMS, EdgeShutdownTest::moreThanTheTimeout);
        Doc.says(CONFIRMS, EdgeShutdownTest::theLongest);
        Doc.says(CONFIRMS, EdgeShutdownTest::withTheSameStep);
        Doc.says("(A blocked one that is shutting down stays blocked.)", EdgeShutdownTest::blocked);
        Doc.says("What is more than a timeout late is not looked at while tasks run.", EdgeShutdownTest::lateWhileTasksRun);
        Doc.says("do what orders do, by the host's thread;", EdgeShutdownTest::hostDoesTheSame);
        Doc.says(CANNOT, EdgeShutdownTest::hostCannot);
        Doc.says("IllegalArgumentException instead of a throw", EdgeShutdownTest::hostIsTerminatedToo);
        Check.end();
    }

    private static void times() {
        int[][] right = {{0, 0}, {0, 1}, {1, 1}, {0, Integer.MAX_VALUE}, {Integer.MAX_VALUE, Integer.MAX_VALUE}};
        for (int[] pair : right) {
            Group x = new Group(1);
            x.execute(Check.task(x, 12, pair[0], pair[1], 0, 7, 0), 0);
            x.step(0);
            Check.traceIs(pair[0] + ", " + pair[1] + " by an order", x, "0:7:2 0:1:0 0:7:3 0:0:7");
        }
        int[][] wrong = {{-1, 0}, {0, -1}, {1, 0}, {-2, -1}, {Integer.MAX_VALUE, 0}, {Integer.MIN_VALUE, Integer.MAX_VALUE}};
        for (int[] pair : wrong) {
            Group x = new Group(1);
            x.execute(Check.task(x, 12, pair[0], pair[1], 0, 7, 0), 0);
            Check.cannotBe(pair[0] + ", " + pair[1] + " by the host", x, () -> x.shutdown(pair[0], pair[1]));
            x.step(0);
            Check.traceIs(pair[0] + ", " + pair[1] + " by an order", x, "0:7:2 0:1:0 0:2:0");
            Check.same("started still", x.loop(0, 0), 2);
        }
    }

    private static void becomes() {
        Group x = new Group(3);
        Check.task(x, 12, 5, 9, 0, 7, 0);
        x.advance(50);
        x.execute(0, 2);
        x.step(2);
        Check.traceIs("started or not", x, "2:7:2 2:1:0 0:7:3 1:7:3 2:7:3 2:0:7");
        x.advance(5);
        Check.same("START is the clock then", x.step(0), 0);
        x.advance(1);
        Check.same("more than quiet since", x.step(0), 3);
        Group y = new Group(1);
        y.advance(50);
        y.shutdown(5, 9);
        y.advance(5);
        Check.same("by the host: START", y.step(0), 0);
        y.advance(1);
        Check.same("by the host: more", y.step(0), 3);
    }

    private static void staysAsItIs() {
        Group x = new Group(2);
        Check.task(x, 12, 0, 0);
        x.shutdown(5, 9);
        x.advance(3);
        long before = Inside.all(x);
        x.shutdown(0, 0);
        x.shutdown(100, 100);
        Check.same("by the host", Inside.all(x), before);
        x.execute(0, 1);
        x.step(1);
        Check.same("by an order", x.loop(0, 0), 3);
        Check.same("the first quiet period counts", x.step(0), 0);
        x.advance(3);
        Check.same("since the first START", x.step(0), 3);
        before = Inside.all(x);
        x.shutdown(1, 1);
        Check.same("terminated for good", Inside.all(x), before);
    }

    private static void timersGo() {
        Group x = new Group(2);
        x.promise(1);
        Check.task(x, 8, 0, 0);
        x.task();
        x.execute(0, 0);
        x.step(0);
        for (int k = 0; k < 24; k++) {
            x.timer(1, 0, 0);
            x.timer(1, 0, 1);
        }
        x.execute(1, 1);
        x.shutdown(9, 9);
        Check.same("not before it steps", x.loop(0, 2) + x.loop(1, 2), 48);
        Check.same("one can be cancelled still", x.cancel(0), true);
        Check.same("a blocked one", x.step(0), 2);
        Check.same("has none", x.loop(0, 2), 0);
        Check.same("nothing came to its queue", x.loop(0, 1), 0);
        Check.same("none can be cancelled", x.cancel(2), false);
        Check.same("one with a task", x.step(1), 1);
        Check.same("has none", x.loop(1, 2), 0);
        Check.same("though all were due", x.loop(1, 1), 0);
        Check.same("nothing runs", x.step(1), 0);
        duringAShutdownOrder();
    }

    private static void duringAShutdownOrder() {
        Group x = new Group(1);
        Check.task(x, 2, 0, 0, 12, 9, 9, 3, 0, 0, 0, 7, 0);
        x.execute(0, 0);
        x.timer(0, 5, 0);
        x.step(0);
        Check.same("the order's own step takes none away but by CANCEL", x.loop(0, 2), 1);
        Check.same("the next one does", x.step(0), 0);
        Check.same("none", x.loop(0, 2), 0);
    }

    private static void runsAsBefore() {
        Group x = new Group(2);
        Check.task(x, 0, 7, 0);
        x.channels(0, 1);
        x.promise(0);
        x.complete(0, 1, 0);
        for (int k = 0; k < 20; k++) {
            x.execute(0, 0);
        }
        x.shutdown(0, 0);
        x.execute(0, 0);
        x.fire(0, 5);
        x.listen(0, 0);
        x.execute(0, 0);
        Check.rejected("24 as before", x, 0, () -> x.execute(0, 0));
        Check.same("a task", x.step(0), 1);
        Check.same("a batch of 16 as before", x.loop(0, 4), 15);
        for (int k = 0; k < 23; k++) {
            Check.same("all of them", x.step(0), 1);
        }
        Check.traceIs("the last ones", x, x.traced() - 8, "0:1:0 0:0:7 0:1:-1 0:8:5 0:5:0 0:0:7 0:1:0 0:0:7");
        Check.same("shutting down", x.loop(0, 0), 3);
        x.execute(0, 0);
        Check.same("one more", x.step(0), 1);
        Check.same("then it ends", x.step(0), 3);
    }

    private static void last() {
        // What begins: a task, a message, a listener.
        for (int kind = 0; kind < 3; kind++) {
            Group x = new Group(1);
            x.task();
            x.channels(0, 0);
            x.promise(0);
            x.complete(0, 1, 0);
            x.shutdown(5, 1000);
            x.advance(4);
            put(x, kind);
            put(x, kind);
            x.step(0);
            x.advance(3);
            x.step(0);
            x.advance(5);
            Check.same("5 since the second began", x.step(0), 0);
            x.advance(1);
            Check.same("6 since", x.step(0), 3);
        }
    }

    private static void put(Group x, int kind) {
        if (kind == 0) {
            x.execute(0, 0);
        } else if (kind == 1) {
            x.fire(0, 1);
        } else {
            x.listen(0, 0);
        }
    }

    private static void quietIsZero() {
        for (int timeout : new int[] {0, 1, Integer.MAX_VALUE}) {
            Group x = new Group(2);
            x.task();
            x.execute(0, 0);
            x.shutdown(0, timeout);
            Check.same("a task first", x.step(0), 1);
            Check.same("then at once", x.step(0), 3);
            Check.same("one that was not started: at once", x.step(1), 3);
        }
    }

    private static void sinceStart() {
        for (int quiet : new int[] {1, 2, 1000000}) {
            Group x = new Group(1);
            x.task();
            x.execute(0, 0);
            x.advance(30);
            x.step(0);
            x.advance(40);
            x.shutdown(quiet, Integer.MAX_VALUE);
            Check.same("at START", x.step(0), 0);
            x.advance(quiet);
            Check.same("quiet since START", x.step(0), 0);
            x.advance(1);
            Check.same("more than quiet", x.step(0), 3);
        }
    }

    private static void sinceLast() {
        Group x = new Group(1);
        x.task();
        x.shutdown(3, Integer.MAX_VALUE);
        for (int k = 0; k < 10; k++) {
            x.advance(3);
            Check.same("3 since the last", x.step(0), 0);
            x.execute(0, 0);
            Check.same("the next", x.step(0), 1);
        }
        x.advance(3);
        x.execute(0, 0);
        x.advance(1);
        Check.same("a task that waited begins at 4", x.step(0), 1);
        x.advance(3);
        Check.same("3 since it began", x.step(0), 0);
        x.advance(1);
        Check.same("4 since", x.step(0), 3);
    }

    private static void moreThanTheTimeout() {
        for (int timeout : new int[] {3, 4, 7}) {
            Group x = new Group(1);
            x.task();
            x.advance(100);
            x.shutdown(3, timeout);
            for (int k = 0; k < timeout; k++) {
                x.advance(1);
                x.execute(0, 0);
                x.step(0);
                Check.same("not more than the timeout", x.step(0), 0);
            }
            x.advance(1);
            x.execute(0, 0);
            Check.same("a task", x.step(0), 1);
            Check.same("more than the timeout, just as one began", x.step(0), 3);
        }
    }

    private static void theLongest() {
        Group x = new Group(1);
        x.shutdown(Integer.MAX_VALUE, Integer.MAX_VALUE);
        for (int k = 0; k < 400; k++) {
            x.advance(1000000);
        }
        Check.same("no run of calls is that long", x.step(0), 0);
    }

    private static void withTheSameStep() {
        Group x = new Group(2);
        x.task();
        x.shutdown(2, 2);
        int from = x.traced();
        Check.same("nothing yet", x.step(1), 0);
        Check.same("no change", x.traced(), from);
        x.advance(3);
        Check.same("both", x.step(1), 3);
        Check.traceIs("shut down, terminated", x, from, "1:7:4 1:7:5");
        Check.same("its state", x.loop(1, 0), 5);
        Check.same("the other one's", x.loop(0, 0), 3);
        Check.same("the other one takes tasks", x.execute(0, 0), 0);
        Check.rejected("this one does not", x, 0, () -> x.execute(0, 1));
    }

    private static void blocked() {
        Group x = new Group(2);
        x.promise(1);
        Check.task(x, 8, 0, 0, 0, 7, 0);
        x.task();
        x.execute(0, 0);
        x.execute(1, 0);
        x.step(0);
        x.shutdown(0, 0);
        x.advance(1000);
        Check.same("late as it is", x.step(0), 2);
        Check.same("its executor ends", x.step(1), 3);
        Check.same("blocked still", x.step(0), 2);
        Check.same("state", x.loop(0, 0), 3);
        Check.same("others can be executed", x.execute(1, 0), 0);
        x.complete(0, 3, 0);
        Check.same("it goes on", x.step(0), 1);
        Check.same("a task", x.step(0), 1);
        Check.same("a task", x.step(0), 1);
        Check.same("the end", x.step(0), 3);
    }

    private static void lateWhileTasksRun() {
        Group x = new Group(1);
        Check.task(x, 1, 0, -1);
        x.execute(0, 0);
        x.shutdown(0, 0);
        for (int k = 0; k < 50; k++) {
            x.advance(1000);
            Check.same("a task", x.step(0), 1);
        }
        Check.same("state", x.loop(0, 0), 3);
        Check.same("queue", x.loop(0, 1), 1);
    }

    private static void hostDoesTheSame() {
        Group x = new Group(2);
        Check.task(x, 0, 7, 0);
        x.channels(0, 1);
        x.promise(0);
        x.promise(1);
        x.listen(0, 0);
        x.complete(0, 1, 5);
        x.listen(0, 0);
        x.fire(0, 3);
        x.execute(0, 0);
        x.timer(0, 0, 0);
        Check.traceIs("nothing runs by the host's thread", x, "0:7:2 -1:9:0");
        Check.same("all is executed", x.loop(0, 1), 4);
    }

    private static void hostCannot() {
        Group x = new Group(2);
        x.task();
        x.promise(1);
        x.channels(0, 1);
        for (int k = 0; k < 24; k++) {
            x.execute(0, 1);
            x.timer(0, 9, 1);
        }
        Check.rejected("execute", x, 0, () -> x.execute(0, 1));
        Check.rejected("timer", x, 0, () -> x.timer(0, 9, 1));
        Check.rejected("fire", x, -1, () -> x.fire(1, 4));
        x.listen(0, 0);
        int from = x.traced();
        Check.same("a completion is told", x.complete(0, 1, 6), true);
        x.listen(0, 0);
        Check.traceIs("of listeners it is logged alone", x, from, "-1:4:0 -1:4:0");
        Check.cannotBe("execute with no task", x, () -> x.execute(1, 1));
        Check.cannotBe("timer with no task", x, () -> x.timer(1, 9, 1));
        Check.cannotBe("fire with no channel", x, () -> x.fire(2, 4));
        Check.cannotBe("complete with no promise", x, () -> x.complete(1, 1, 4));
        Check.cannotBe("listen with no task", x, () -> x.listen(0, 1));
        Check.cannotBe("shutdown with no time", x, () -> x.shutdown(0, -1));
    }

    private static void hostIsTerminatedToo() {
        Group x = new Group(1);
        x.task();
        x.promise(0);
        x.channels(0, 0);
        x.shutdown(0, 0);
        x.step(0);
        Check.cannotBe("execute with no task", x, () -> x.execute(1, 0));
        Check.cannotBe("timer below 0", x, () -> x.timer(0, -1, 0));
        Check.cannotBe("fire with no channel", x, () -> x.fire(2, 4));
        Check.cannotBe("shutdown with no time", x, () -> x.shutdown(2, 1));
        Check.rejected("timer", x, 0, () -> x.timer(0, 0, 0));
        Check.rejected("fire", x, -1, () -> x.fire(1, 4));
        x.listen(0, 0);
        int from = x.traced();
        Check.same("promises go on", x.complete(0, 1, 6), true);
        Check.traceIs("its listener is lost", x, from, "-1:4:0");
        Check.same("tasks are made still", x.task(), 1);
        Check.same("promises too", x.promise(0), 1);
        Check.same("and channels", x.channels(0, 0), 2);
        Check.same("and handlers", x.handler(2, 0, 0, -1), 0);
        Check.same("the clock goes on", x.advance(1), 1);
    }
}
