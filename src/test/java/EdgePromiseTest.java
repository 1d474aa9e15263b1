/** The edges that the document's terms name: promises, listeners, notifications, awaits. */
final class EdgePromiseTest {
    private static final String WAITING = "its listeners are NOTIFIED in the order in which they were added "
        + "(each once; at most 6 wait at a promise: more are a throw)";
    private static final String NOW = "when less than 4 such notifications go on within one another on it, the listener's task runs now";
    private static final String EXECUTED = "otherwise it is executed on the executor (5 is logged when it begins, not 1; "
        + "a rejected one is lost, with 4).";
    private static final String REFUSED = "An AWAIT within a listener that runs now or within a pipeline, or by the promise's own "
        + "executor, is refused when it is pending (3 is logged): the orders go on.";

    public static void main(String[] args) {
        Doc.says("PROMISES (promise(loop): at most 32, each with the loop that is its EXECUTOR)", EdgePromiseTest::thirtyTwo);
        Doc.says("with a value (0 when cancelled).", EdgePromiseTest::values);
        Doc.says("Only a pending one can be completed; of a PINNED one cancelling does nothing.", EdgePromiseTest::onlyPending);
        Doc.says("of a PINNED one cancelling does nothing.", EdgePromiseTest::pinned);
        Doc.says(WAITING, EdgePromiseTest::sixWait);
        Doc.says(WAITING, EdgePromiseTest::eachOnce);
        Doc.says("a listener added to one that is done is notified at once.", EdgePromiseTest::atOnce);
        Doc.says(NOW, EdgePromiseTest::fourDeep);
        Doc.says(NOW, EdgePromiseTest::besideOneAnother);
        Doc.says(NOW, EdgePromiseTest::fourAgainBehindThrows);
        Doc.says(NOW, EdgePromiseTest::fourWithMessagesBetween);
        Doc.says("(5 is logged, then its orders; what it throws ends it alone, 2 is logged)", EdgePromiseTest::throwsAlone);
        Doc.says(EXECUTED, EdgePromiseTest::executedOnTheExecutor);
        Doc.says(EXECUTED, EdgePromiseTest::rejectedIsLost);
        Doc.says(REFUSED, EdgePromiseTest::refused);
        Doc.says(REFUSED, EdgePromiseTest::refusedManyTimes);
        Doc.says("Otherwise the loop is BLOCKED. An await of one that is done goes on (no log).", EdgePromiseTest::blocked);
        Check.end();
    }

    /** What a task with these orders logs on loop 0, behind its beginning. */
    private static String done(Group x, int... orders) {
        x.execute(Check.task(x, orders), 0);
        int from = x.traced();
        x.step(0);
        return Check.trace(x, from + 1);
    }

    private static void thirtyTwo() {
        Group x = new Group(2);
        Check.task(x, 4, 31, 3, 0, 1, 0);
        Check.task(x, 4, 32, 3, 0, 1, 0);
        for (int k = 0; k < 31; k++) {
            x.promise(0);
        }
        x.execute(0, 0);
        x.step(0);
        Check.traceIs("not there yet", x, 1, "0:1:0 0:2:0");
        x.promise(1);
        x.execute(0, 0);
        x.execute(1, 0);
        x.step(0);
        x.step(0);
        Check.traceIs("the 32nd, and one more", x, 3, "0:1:0 0:0:1 0:1:1 0:2:1");
        Check.same("done", x.look(31, 1), 3);
    }

    private static void values() {
        for (int value : new int[] {0, 1, -1, Integer.MAX_VALUE, Integer.MIN_VALUE}) {
            Group x = new Group(1);
            for (int k = 0; k < 6; k++) {
                x.promise(0);
            }
            x.complete(0, 1, value);
            x.complete(1, 2, value);
            x.complete(2, 3, value);
            done(x, 4, 3, value, 5, 4, value, 6, 5, value);
            for (int k = 0; k < 6; k++) {
                Check.same("state of " + k, x.look(k, 0), 1 + k % 3);
                Check.same("value of " + k, x.look(k, 1), k % 3 == 2 ? 0 : value);
            }
        }
    }

    private static void onlyPending() {
        for (int first = 4; first <= 6; first++) {
            Group x = new Group(1);
            x.promise(0);
            x.task();
            done(x, first, 0, 9);
            for (int then : new int[] {4, 5, 6, 13}) {
                Check.same("an order of kind " + then + " goes on", done(x, then, 0, 5, 0, 7, 0), "0:0:7");
            }
            Check.same("state", x.look(0, 0), first - 3);
            Check.same("value", x.look(0, 1), first == 6 ? 0 : 9);
            x.listen(0, 0);
            x.step(0);
            int from = x.traced();
            Check.same("nor by the host", x.complete(0, 1, 5), false);
            Check.same("nobody is notified again", x.step(0), 0);
            Check.same("nothing logged", x.traced(), from);
        }
    }

    private static void pinned() {
        Group x = new Group(1);
        x.promise(0);
        x.promise(0);
        x.task();
        x.listen(0, 0);
        Check.same("orders go on", done(x, 13, 0, 0, 6, 0, 0, 13, 0, 0, 6, 0, 0, 0, 7, 0), "0:0:7");
        Check.same("pending", x.look(0, 0), 0);
        Check.same("its listener waits", x.look(0, 2), 1);
        Check.same("by the host", x.complete(0, 3, 0), false);
        Check.same("its value", x.look(0, 1), 0);
        Check.same("another is not pinned", x.complete(1, 3, 0), true);
        Check.same("it can be completed", done(x, 5, 0, 8), "0:5:0");
        Check.same("and was", x.look(0, 1), 8);
    }

    private static void sixWait() {
        Group x = new Group(2);
        x.promise(0);
        x.promise(0);
        x.task();
        Check.same("six by orders", done(x, 7, 0, 0, 7, 0, 0, 7, 0, 0, 7, 0, 0, 7, 0, 0, 7, 0, 0, 0, 7, 0), "0:0:7");
        Check.same("a 7th throws", done(x, 7, 0, 0, 0, 7, 0), "0:2:2");
        Check.cannotBe("a 7th of the host", x, () -> x.listen(0, 0));
        Check.same("six wait", x.look(0, 2), 6);
        Check.same("another has its own", done(x, 7, 1, 0, 0, 7, 0), "0:0:7");
        x.complete(0, 1, 0);
        for (int k = 0; k < 6; k++) {
            x.step(0);
        }
        Check.same("one that is done takes more than six",
            done(x, 7, 0, 0, 7, 0, 0, 7, 0, 0, 7, 0, 0, 7, 0, 0, 7, 0, 0, 7, 0, 0, 0, 7, 0),
            "0:5:0 0:5:0 0:5:0 0:5:0 0:5:0 0:5:0 0:5:0 0:0:7");
    }

    private static void eachOnce() {
        Group x = new Group(1);
        x.promise(0);
        for (int k = 0; k < 6; k++) {
            Check.task(x, 4, 0, 1, 5, 0, 2, 0, 10 + k, 0);
        }
        for (int k : new int[] {3, 0, 5, 1, 4, 2}) {
            x.listen(0, k);
        }
        Check.same("in their order", done(x, 4, 0, 3),
            "0:5:3 0:0:13 0:5:0 0:0:10 0:5:5 0:0:15 0:5:1 0:0:11 0:5:4 0:0:14 0:5:2 0:0:12");
        Check.same("none waits", x.look(0, 2), 0);
        Check.same("none again", done(x, 4, 0, 3, 0, 7, 0), "0:0:7");
        Check.same("the first completion counts", x.look(0, 1), 3);
    }

    private static void atOnce() {
        Group x = new Group(2);
        x.promise(0);
        x.task();
        x.complete(0, 3, 0);
        Check.same("by the executor", done(x, 0, 1, 0, 7, 0, 0, 0, 2, 0), "0:0:1 0:5:0 0:0:2");
        x.execute(1, 1);
        x.step(1);
        Check.same("executed by another", x.loop(0, 1), 1);
        x.listen(0, 0);
        Check.same("and by the host", x.loop(0, 1), 2);
        Check.same("none waits", x.look(0, 2), 0);
    }

    /** Task k completes promise k and logs; task k + 1 listens to it. All on loop 0. */
    private static Group chain(int length) {
        Group x = new Group(1);
        for (int k = 0; k < length; k++) {
            x.promise(0);
            Check.task(x, 4, k, 0, 0, 50 + k, 0);
        }
        for (int k = 1; k < length; k++) {
            x.listen(k - 1, k);
        }
        return x;
    }

    private static void fourDeep() {
        Group four = chain(5);
        four.execute(0, 0);
        four.step(0);
        Check.traceIs("the 4th runs now", four, "0:7:2 0:1:0 0:5:1 0:5:2 0:5:3 0:5:4 0:0:54 0:0:53 0:0:52 0:0:51 0:0:50");
        Check.same("nothing is executed", four.loop(0, 1), 0);
        Group five = chain(6);
        five.execute(0, 0);
        five.step(0);
        Check.traceIs("the 5th does not", five, "0:7:2 0:1:0 0:5:1 0:5:2 0:5:3 0:5:4 0:0:54 0:0:53 0:0:52 0:0:51 0:0:50");
        Check.same("it is executed", five.loop(0, 1), 1);
        five.step(0);
        Check.traceIs("it begins with 5", five, 11, "0:5:5 0:0:55");
        Group atOnce = chain(5);
        atOnce.complete(4, 1, 0);
        atOnce.order(4, 7, 4, 0);
        atOnce.execute(0, 0);
        atOnce.step(0);
        Check.same("nor one that is added to one that is done", atOnce.loop(0, 1), 1);
    }

    private static void besideOneAnother() {
        Group x = new Group(1);
        x.promise(0);
        x.task();
        for (int k = 0; k < 6; k++) {
            x.listen(0, 0);
        }
        Check.same("all six run now", done(x, 4, 0, 0, 7, 0, 0, 7, 0, 0),
            "0:5:0 0:5:0 0:5:0 0:5:0 0:5:0 0:5:0 0:5:0 0:5:0");
        Check.same("nothing is executed", x.loop(0, 1), 0);
    }

    private static void fourAgainBehindThrows() {
        Group x = new Group(1);
        for (int k = 0; k < 10; k++) {
            x.promise(0);
        }
        for (int k = 0; k < 10; k++) {
            Check.task(x, 4, k, 0, 9, 0, 0);
        }
        for (int k : new int[] {1, 2, 3, 4, 6, 7, 8, 9}) {
            x.listen(k - 1, k);
        }
        Check.same("four, and four again", done(x, 4, 0, 0, 4, 5, 0, 0, 7, 0),
            "0:5:1 0:5:2 0:5:3 0:5:4 0:2:4 0:2:3 0:2:2 0:2:1 0:5:6 0:5:7 0:5:8 0:5:9 0:2:9 0:2:8 0:2:7 0:2:6 0:0:7");
    }

    /** Listener k fires at a channel whose handler completes promise k + 1: four of both are within one another. */
    private static void fourWithMessagesBetween() {
        Group x = new Group(1);
        for (int k = 0; k < 6; k++) {
            x.promise(0);
        }
        for (int k = 0; k < 6; k += 2) {
            x.channels(0, 0);
        }
        for (int k = 0; k < 6; k++) {
            Check.task(x, 10, k, 2, 0, 50 + k, 0);
        }
        for (int k = 0; k < 5; k++) {
            x.listen(k, k);
            x.handler(k, 4, Check.task(x, 4, k + 1, 0), -1);
        }
        Check.same("four listeners, four messages", done(x, 4, 0, 0),
            "0:5:0 0:6:2 0:5:1 0:6:1000002 0:5:2 0:6:2000002 0:5:3 0:6:3000002 "
            + "0:8:2 0:0:53 0:8:2 0:0:52 0:8:2 0:0:51 0:8:2 0:0:50");
        Check.same("the 5th listener is executed", x.loop(0, 1), 1);
        int from = x.traced();
        x.step(0);
        Check.traceIs("it", x, from, "0:5:4 0:6:4000002 0:8:2 0:0:54");
    }

    private static void throwsAlone() {
        Group x = new Group(1);
        x.promise(0);
        x.promise(0);
        Check.task(x, 0, 1, 0, 9, 0, 0, 0, 2, 0);
        Check.task(x, 0, 3, 0);
        x.listen(0, 0);
        x.listen(0, 1);
        Check.same("the next listener and the task go on", done(x, 4, 0, 0, 0, 7, 0), "0:5:0 0:0:1 0:2:0 0:5:1 0:0:3 0:0:7");
        x.listen(0, 0);
        int from = x.traced();
        Check.same("one of the queue", x.step(0), 1);
        Check.traceIs("throws as well", x, from, "0:5:0 0:0:1 0:2:0");
    }

    private static void executedOnTheExecutor() {
        Group x = new Group(3);
        x.promise(2);
        Check.task(x, 0, 3, 0, 1, 0, -1);
        x.listen(0, 0);
        Check.same("by loop 0", done(x, 4, 0, 0, 0, 7, 0), "2:7:2 0:0:7");
        x.listen(0, 0);
        x.step(2);
        x.step(2);
        x.step(2);
        Check.traceIs("5 of listeners, 1 of the task", x, 4, "2:5:0 2:0:3 2:5:0 2:0:3 2:1:0 2:0:3");
    }

    private static void rejectedIsLost() {
        Group x = new Group(2);
        x.promise(1);
        x.promise(1);
        x.task();
        for (int k = 0; k < 22; k++) {
            x.execute(0, 1);
        }
        for (int k = 0; k < 4; k++) {
            x.task();
            x.listen(0, 1 + k);
        }
        Check.same("two have room", done(x, 4, 0, 0, 0, 7, 0), "0:4:3 0:4:4 0:0:7");
        Check.same("none waits", x.look(0, 2), 0);
        Check.same("one that is added", done(x, 7, 0, 2, 0, 7, 0), "0:4:2 0:0:7");
        int from = x.traced();
        x.listen(0, 1);
        x.listen(1, 3);
        Check.same("the completion is told, the loss is not", x.complete(1, 1, 0), true);
        Check.traceIs("by the host", x, from, "-1:4:1 -1:4:3");
        for (int k = 0; k < 24; k++) {
            x.step(1);
        }
        Check.same("nothing comes later", x.step(1), 0);
        Check.traceIs("the two", x, x.traced() - 2, "1:5:1 1:5:2");
        deepAndRejected();
    }

    private static void deepAndRejected() {
        Group x = chain(6);
        x.execute(0, 0);
        for (int k = 0; k < 23; k++) {
            x.execute(5, 0);
        }
        x.order(4, 1, 5, 0);
        x.listen(4, 3);
        int from = x.traced();
        x.step(0);
        Check.traceIs("the 5th takes the last place, the next is lost", x, from,
            "0:1:0 0:5:1 0:5:2 0:5:3 0:5:4 0:4:3 0:0:54 0:4:5 0:0:53 0:0:52 0:0:51 0:0:50");
    }

    private static void refused() {
        Group x = new Group(2);
        x.promise(0);
        x.promise(1);
        x.promise(0);
        int waits = Check.task(x, 8, 1, 0, 0, 5, 0);
        Check.same("by its own executor", done(x, 8, 0, 0, 0, 7, 0), "0:3:0 0:0:7");
        x.listen(2, waits);
        Check.same("within a listener", done(x, 4, 2, 0, 0, 7, 0), "0:5:0 0:3:1 0:0:5 0:0:7");
        x.channels(0, 0);
        x.handler(0, 4, waits, -1);
        Check.same("within a pipeline", done(x, 10, 0, 4, 0, 7, 0), "0:6:4 0:3:1 0:0:5 0:8:4 0:0:7");
        x.fire(0, 4);
        int from = x.traced();
        x.step(0);
        Check.traceIs("within a pipeline of the queue", x, from, "0:1:-1 0:6:4 0:3:1 0:0:5 0:8:4");
        Check.same("a listener within a pipeline", done(x, 7, 2, 0, 0, 7, 0), "0:5:0 0:3:1 0:0:5 0:0:7");
        Check.same("never blocked", x.loop(0, 3), 0);
        x.complete(1, 2, 0);
        Check.same("of one that is done it goes on", done(x, 7, 2, 0, 10, 0, 4), "0:5:0 0:0:5 0:6:4 0:0:5 0:8:4");
    }

    private static void refusedManyTimes() {
        Group x = new Group(2);
        x.promise(0);
        Check.same("each is logged", done(x, 8, 0, 0, 8, 0, 0, 8, 0, 0, 4, 0, 1, 8, 0, 0, 0, 7, 0), "0:3:0 0:3:0 0:3:0 0:0:7");
        x.promise(1);
        x.execute(Check.task(x, 8, 1, 0, 0, 7, 0), 1);
        x.step(1);
        Check.same("by 1 of its own", x.loop(1, 3), 0);
        x.execute(1, 0);
        x.step(0);
        Check.same("by 0 of 1's", x.loop(0, 3), 1);
    }

    private static void blocked() {
        Group x = new Group(2);
        for (int k = 0; k < 3; k++) {
            x.promise(1);
        }
        x.complete(0, 1, 0);
        x.complete(1, 3, 0);
        Check.same("of those that are done", done(x, 8, 0, 0, 8, 1, 0, 0, 1, 0, 8, 2, 0, 0, 2, 0), "0:0:1");
        Check.same("blocked", x.loop(0, 3), 1);
        Check.same("step", x.step(0), 2);
        x.complete(2, 4, 0);
        Check.same("a pin does not end it", x.step(0), 2);
        x.complete(2, 3, 0);
        Check.same("nor does a cancelling of a pinned one", x.step(0), 2);
        x.complete(2, 2, 0);
        Check.same("a failure does", x.step(0), 1);
        Check.traceIs("10", x, x.traced() - 2, "0:10:2 0:0:2");
    }
}
