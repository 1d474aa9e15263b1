/** The edges that the document's terms name: states, tasks, orders, the chooser, the trace. */
final class EdgeOrdersTest {
    private static final String NONE =
        "An order whose numbers are none (a task, loop, promise, channel, timer that there is not, a time below 0) is a THROW.";
    private static final String CHOOSER =
        "the loop c & (n - 1) when n is a power of two, otherwise the absolute value of c % n.";

    public static void main(String[] args) {
        Doc.says("2 STARTED (when something is executed or scheduled there first)", EdgeOrdersTest::started);
        Doc.says("TASKS are rows of at most 8 ORDERS, told by order(); a task can be executed many times.", EdgeOrdersTest::manyTimes);
        Doc.says("1 EXECUTE task a on loop b (-1: the one that does it; -2: the one that the CHOOSER gives).", EdgeOrdersTest::executeOrder);
        Doc.says("2 TIMER: task a, b milliseconds from now (0 and more), on the loop that does it.", EdgeOrdersTest::timerOrder);
        Doc.says("9 THROW: the orders behind it are not done.", EdgeOrdersTest::throwOrder);
        Doc.says(NONE, EdgeOrdersTest::numbersThatAreNone);
        Doc.says("of a number of times c (0 at first, counted up each time, an int)", EdgeOrdersTest::chooserCounts);
        Doc.says(CHOOSER, EdgeOrdersTest::chooserWraps);
        Doc.says("the loop (-1 the host), a kind, a value", EdgeOrdersTest::byTheHost);
        Doc.says("4 REJECTED (the task; -1 of a message), on the thread that wanted it", EdgeOrdersTest::rejectedLog);
        Doc.says("6 a handler gets a message (1,000,000 times the handler, plus the message, as an int; not of what was thrown)",
            EdgeOrdersTest::handlerLogWraps);
        Doc.says("7 the loop's state changed (the state; the loop is that one)", EdgeOrdersTest::stateLog);
        Doc.says("on the thread that made it (behind the 7 of its loop, if that is started by it)", EdgeOrdersTest::timerLog);
        Doc.says("The latest 300 entries are kept.", EdgeOrdersTest::latest300);
        Check.end();
    }

    /** What an order logs behind the beginning of its task (the last that was made), LOG 7 standing behind it. */
    private static String done(Group x, int kind, int a, int b) {
        int task = Check.task(x, kind, a, b, 0, 7, 0);
        x.execute(task, 0);
        int from = x.traced();
        x.step(0);
        return Check.trace(x, from + 1);
    }

    private static void started() {
        Group x = new Group(6);
        x.task();
        x.promise(0);
        x.promise(3);
        x.channels(0, 2);
        x.handler(0, 3, 0, -1);
        x.listen(0, 0);
        x.advance(5);
        x.step(0);
        x.complete(0, 4, 0);
        x.cancel(0);
        Check.same("nothing is executed yet", x.traced(), 0);
        x.complete(0, 1, 0);
        x.execute(0, 1);
        x.execute(0, 1);
        x.fire(1, 5);
        x.fire(1, 5);
        x.complete(1, 1, 0);
        Check.same("a completion without listeners starts nothing", x.loop(3, 0), 1);
        x.listen(1, 0);
        x.timer(0, 5, 4);
        x.timer(0, 5, 4);
        x.execute(0, 4);
        Check.traceIs("each once", x, "0:7:2 1:7:2 2:7:2 3:7:2 4:7:2 -1:9:0 -1:9:1");
        Check.same("loop 5 had nothing", x.loop(5, 0), 1);
    }

    private static void manyTimes() {
        Group x = new Group(1);
        int task = Check.task(x, 0, 1, 0, 0, 2, 0, 0, 3, 0, 0, 4, 0, 0, 5, 0, 0, 6, 0, 0, 7, 0, 0, 8, 0);
        for (int k = 0; k < 24; k++) {
            x.execute(task, 0);
        }
        for (int k = 0; k < 24; k++) {
            x.step(0);
        }
        Check.same("eight orders each", x.traced(), 1 + 24 * 9);
        Check.traceIs("the last time", x, 1 + 23 * 9, "0:1:0 0:0:1 0:0:2 0:0:3 0:0:4 0:0:5 0:0:6 0:0:7 0:0:8");
    }

    private static void executeOrder() {
        Group x = new Group(3);
        x.task();
        Check.same("-1", done(x, 1, 0, -1), "0:0:7");
        Check.same("itself", x.loop(0, 1), 1);
        x.step(0);
        Check.same("-2", done(x, 1, 0, -2), "0:0:7");
        Check.same("the chooser's first", x.loop(0, 1), 1);
        x.step(0);
        Check.same("-2 again", done(x, 1, 0, -2), "1:7:2 0:0:7");
        Check.same("the chooser's second", x.loop(1, 1), 1);
        Check.same("2", done(x, 1, 0, 2), "2:7:2 0:0:7");
        Check.same("-3", done(x, 1, 0, -3), "0:2:5");
        Check.same("3", done(x, 1, 0, 3), "0:2:6");
        x.execute(1, 2);
        x.step(2);
        x.step(2);
        Check.same("-1 by another loop is that one", x.loop(2, 1), 1);
    }

    private static void timerOrder() {
        Group x = new Group(2);
        x.task();
        x.advance(1000000);
        Check.same("0", done(x, 2, 0, 0), "0:9:0 0:0:7");
        Check.same("due at once", x.step(0), 1);
        Check.same("1", done(x, 2, 0, 1), "0:9:1 0:0:7");
        Check.same("not yet", x.step(0), 0);
        x.advance(1);
        Check.same("now", x.step(0), 1);
        Check.same("-1", done(x, 2, 0, -1), "0:2:3");
        Check.same("the least", done(x, 2, 0, Integer.MIN_VALUE), "0:2:4");
        Check.same("the most", done(x, 2, 0, Integer.MAX_VALUE), "0:9:2 0:0:7");
        Check.same("far away", x.step(0), 0);
        Check.same("it waits", x.loop(0, 2), 1);
    }

    private static void throwOrder() {
        for (int place = 0; place < 8; place++) {
            Group x = new Group(1);
            int task = x.task();
            StringBuilder due = new StringBuilder("0:7:2 0:1:0");
            for (int k = 0; k < 8; k++) {
                x.order(task, k == place ? 9 : 0, k, k);
                due.append(k < place ? " 0:0:" + k : "");
            }
            x.execute(task, 0);
            Check.same("something ran", x.step(0), 1);
            Check.traceIs("the throw at " + place, x, due + " 0:2:0");
        }
    }

    private static void numbersThatAreNone() {
        // Kind, which number is wrong (0 a, 1 b), how many of it there are.
        int[][] cases = {{1, 0, 1}, {2, 0, 1}, {3, 0, 3}, {4, 0, 2}, {5, 0, 2}, {6, 0, 2}, {7, 0, 2}, {7, 1, 1}, {8, 0, 2},
            {10, 0, 4}, {11, 0, 4}, {13, 0, 2}};
        for (int[] one : cases) {
            for (int wrong : Check.outside(one[2])) {
                throwsWith(one[0], one[1] == 0 ? wrong : 0, one[1] == 1 ? wrong : 0);
            }
        }
        for (int loop : new int[] {-3, 2, 3, -(1 << 29), Integer.MAX_VALUE, Integer.MIN_VALUE}) {
            throwsWith(1, 0, loop);
        }
        for (int time : new int[] {-1, -2, Integer.MIN_VALUE}) {
            throwsWith(2, 0, time);
        }
        int[][] times = {{-1, 0}, {-1, -1}, {0, -1}, {1, 0}, {Integer.MIN_VALUE, Integer.MAX_VALUE}, {0, Integer.MIN_VALUE}};
        for (int[] pair : times) {
            throwsWith(12, pair[0], pair[1]);
        }
    }

    /** There are 1 task, 2 loops, 2 promises, 4 channels and the timers 0 .. 2: the order throws and does nothing. */
    private static void throwsWith(int kind, int a, int b) {
        Group x = new Group(2);
        int task = Check.task(x, kind, a, b, 0, 7, 0);
        x.promise(0);
        x.promise(1);
        x.channels(0, 0);
        x.channels(1, 1);
        for (int k = 0; k < 3; k++) {
            x.timer(task, 99, 0);
        }
        x.execute(task, 0);
        int from = x.traced();
        x.step(0);
        String what = "kind " + kind + " with " + a + ", " + b;
        Check.traceIs(what, x, from, "0:1:0 0:2:0");
        Check.same(what + ": timers", x.loop(0, 2), 3);
        Check.same(what + ": nothing executed", x.loop(0, 1) + x.loop(1, 1), 0);
        Check.same(what + ": promises", x.look(0, 0) + x.look(1, 0) + x.look(0, 2) + x.look(1, 2), 0);
    }

    private static void chooserCounts() {
        Group x = new Group(3);
        Check.task(x, 1, 1, -2, 1, 1, -2, 1, 1, -2, 1, 1, -2, 1, 1, -2, 1, 1, -2, 1, 1, -2);
        x.task();
        Check.same("0 at first", x.execute(1, -2), 0);
        x.execute(0, 2);
        x.step(2);
        Check.same("seven by orders", x.loop(0, 1) * 100 + x.loop(1, 1) * 10 + x.loop(2, 1), 332);
        Check.same("the 9th", x.execute(1, -2), 2);
        Check.illegalArgument("no task", () -> x.execute(2, -2));
        Check.illegalArgument("no loop", () -> x.execute(1, -3));
        Check.same("the 10th", x.execute(1, -2), 0);
    }

    /** No run of 512 calls reaches the end of the ints, so the count is set there. */
    private static void chooserWraps() {
        int[][] due = {{0, 0, 0, 0}, {0, 1, 0, 1}, {0, 1, 2, 1}, {2, 3, 0, 1}, {1, 2, 3, 2}, {0, 1, 2, 1}, {0, 1, 2, 1}, {6, 7, 0, 1}};
        for (int n = 1; n <= 8; n++) {
            Group x = new Group(n);
            x.task();
            Inside.set(x, "Scheduler", "chosen", Integer.MAX_VALUE - 1);
            for (int k = 0; k < 4; k++) {
                Check.same("of " + n + ", time " + k, x.execute(0, -2), due[n - 1][k]);
            }
        }
    }

    private static void byTheHost() {
        Group x = new Group(1);
        x.task();
        x.timer(0, 0, 0);
        for (int k = 0; k < 24; k++) {
            x.execute(0, 0);
        }
        Check.illegalState("full", () -> x.execute(0, 0));
        Check.traceIs("the state is the loop's, the rest the host's", x, "0:7:2 -1:9:0 -1:4:0");
    }

    private static void rejectedLog() {
        Group x = new Group(3);
        for (int k = 0; k < 5; k++) {
            x.task();
        }
        x.channels(0, 1);
        x.promise(1);
        x.complete(0, 1, 0);
        for (int k = 0; k < 24; k++) {
            x.execute(0, 1);
        }
        Check.rejected("a task of the host", x, 4, () -> x.execute(4, 1));
        Check.rejected("a message of the host", x, -1, () -> x.fire(1, 4));
        int from = x.traced();
        x.listen(0, 3);
        Check.traceIs("a listener of the host", x, from, "-1:4:3");
        Check.same("a task of loop 0", done(x, 1, 4, 1), "0:4:4 0:0:7");
        Check.same("a message of loop 0", done(x, 10, 1, 4), "0:4:-1 0:0:7");
        Check.same("a write of loop 0", done(x, 11, 0, 4), "0:4:-1 0:0:7");
        Check.same("a listener of loop 0", done(x, 7, 0, 3), "0:4:3 0:0:7");
        for (int k = 0; k < 24; k++) {
            x.timer(0, 9, 0);
        }
        Check.same("a timer of loop 0", done(x, 2, 2, 1), "0:4:2 0:0:7");
    }

    private static void handlerLogWraps() {
        Group x = new Group(1);
        x.channels(0, 0);
        for (int k = 0; k < 150; k++) {
            x.handler(0, 0, 0, -1);
            x.handler(0, 0, 0, 0);
        }
        x.handler(0, 5, 0, -1);
        x.handler(0, 6, 0, -1);
        x.fire(0, Integer.MAX_VALUE);
        x.fire(0, Integer.MIN_VALUE);
        x.fire(0, 2146999998);
        x.fire(0, -3);
        for (int k = 0; k < 4; k++) {
            x.step(0);
        }
        Check.traceIs("handler 150", x, "0:7:2 0:1:-1 0:6:-1997483649 0:8:2147483647 0:1:-1 0:6:-1997483648 0:8:-2147483648 "
            + "0:1:-1 0:6:-1997967298 0:1:-1 0:6:149999997");
    }

    private static void stateLog() {
        Group x = new Group(2);
        Check.task(x, 1, 0, 1, 12, 0, 0);
        x.execute(0, 0);
        x.step(0);
        Check.traceIs("by another loop", x, "0:7:2 0:1:0 1:7:2 0:7:3 1:7:3");
        x.step(0);
        Check.traceIs("shut down and terminated", x, 5, "0:7:4 0:7:5");
        x.step(0);
        x.shutdown(0, 0);
        Check.same("no change, no entry", x.traced(), 7);
    }

    private static void timerLog() {
        Group x = new Group(3);
        Check.task(x, 2, 0, 5);
        x.timer(0, 5, 1);
        Check.traceIs("the first there", x, "1:7:2 -1:9:0");
        x.timer(0, 5, 1);
        Check.traceIs("the next there", x, 2, "-1:9:1");
        x.execute(0, 2);
        x.timer(0, 5, 2);
        x.step(2);
        Check.traceIs("started before it", x, 3, "2:7:2 -1:9:2 2:1:0 2:9:3");
    }

    private static void latest300() {
        Group x = new Group(1);
        int eight = Check.task(x, 0, 2, 0, 0, 3, 0, 0, 4, 0, 0, 5, 0, 0, 6, 0, 0, 7, 0, 0, 8, 0, 0, 9, 0);
        x.task();
        for (int k = 0; k < 33; k++) {
            x.execute(eight, 0);
            x.step(0);
        }
        x.execute(1, 0);
        x.execute(1, 0);
        x.execute(1, 0);
        x.step(0);
        Check.same("299", x.traced(), 299);
        Check.same("the first is kept", x.trace(0, 1), 7);
        x.step(0);
        Check.same("300", x.traced(), 300);
        Check.same("the first is kept still", x.trace(0, 1), 7);
        Check.same("the 300th", x.trace(299, 2), 1);
        x.step(0);
        Check.refused("the first of 301", x, IndexOutOfBoundsException.class, () -> x.trace(0, 1));
        Check.same("the second of 301", x.trace(1, 1), 1);
        Check.same("the 301st", x.trace(300, 1), 1);
        for (int k = 0; k < 34; k++) {
            x.execute(eight, 0);
            x.step(0);
        }
        Check.same("all of them twice", x.traced(), 607);
        Check.refused("the first of 607 but 300", x, IndexOutOfBoundsException.class, () -> x.trace(306, 1));
        for (int k = 307; k < 607; k++) {
            int place = (k - 301) % 9;
            Check.same("kind of " + k, x.trace(k, 1), place == 0 ? 1 : 0);
        }
    }
}
