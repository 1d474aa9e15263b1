/** Terms: what each kind of order does by a loop's thread, and which orders are a THROW. */
final class OrdersTest {
    public static void main(String[] args) {
        executeOrders();
        executeByTheChooser();
        rejectedExecuteIsNoThrow();
        placeOfTheFirstIsFree();
        timerOrders();
        cancelOrders();
        completeOrders();
        pinOrder();
        listenOrders();
        shutdownOrder();
        throwEndsTheTask();
        noneAreThrows();
        doneIsNoThrow();
        Check.end();
    }

    /** Runs a task with these orders on loop 0 and tells what it logged behind its beginning. */
    private static String ran(Group x, int... orders) {
        int task = Check.task(x, orders);
        x.execute(task, 0);
        int from = x.traced();
        x.step(0);
        String all = Check.trace(x, from);
        String begin = "0:1:" + task;
        Check.same("begins", all.startsWith(begin), true);
        return all.substring(Math.min(all.length(), begin.length())).trim();
    }

    private static void executeOrders() {
        Group x = new Group(3);
        x.task();
        Check.same("on itself", ran(x, 1, 0, -1), "");
        Check.same("its queue", x.loop(0, 1), 1);
        x.step(0);
        Check.same("on 2", ran(x, 1, 0, 2, 1, 0, 2), "2:7:2");
        Check.same("2's queue", x.loop(2, 1), 2);
        Check.same("2 runs it", x.step(2), 1);
    }

    private static void executeByTheChooser() {
        Group x = new Group(3);
        x.task();
        Check.same("0, 1, 2, 0", ran(x, 1, 0, -2, 1, 0, -2, 1, 0, -2, 1, 0, -2), "1:7:2 2:7:2");
        Check.same("0 twice", x.loop(0, 1), 2);
        Check.same("1 once", x.loop(1, 1), 1);
        Check.same("the host goes on from there", x.execute(0, -2), 1);
        x.step(0);
        x.step(0);
        Check.same("a throw does not count", ran(x, 1, 9, -2), "0:2:2");
        Check.same("the next", x.execute(0, -2), 2);
    }

    private static void rejectedExecuteIsNoThrow() {
        Group x = new Group(2);
        x.task();
        for (int k = 0; k < 24; k++) {
            x.execute(0, 1);
        }
        Check.same("4 by the thread that wanted it, then on", ran(x, 1, 0, 1, 0, 6, 0), "0:4:0 0:0:6");
        Check.same("the chooser counts it", ran(x, 1, 0, -2, 1, 0, -2, 1, 0, -2), "0:4:0");
        Check.same("two came to 0", x.loop(0, 1), 2);
    }

    private static void placeOfTheFirstIsFree() {
        Group x = new Group(1);
        Check.task(x, 1, 0, -1, 1, 0, -1);
        for (int k = 0; k < 24; k++) {
            x.execute(0, 0);
        }
        x.step(0);
        Check.traceIs("one has room, one has not", x, "0:7:2 0:1:0 0:4:0");
        Check.same("full again", x.loop(0, 1), 24);
    }

    private static void timerOrders() {
        Group x = new Group(2);
        Check.task(x, 0, 3, 0);
        Check.same("made by the loop", ran(x, 2, 0, 5, 2, 0, 0), "0:9:0 0:9:1");
        Check.same("on the loop that does it", x.loop(0, 2), 2);
        Check.same("the one of 0", x.step(0), 1);
        Check.same("not yet", x.step(0), 0);
        x.advance(5);
        Check.same("the one of 5", x.step(0), 1);
        for (int k = 0; k < 24; k++) {
            x.timer(0, 99, 0);
        }
        Check.same("rejected, no throw", ran(x, 2, 0, 5, 0, 1, 0), "0:4:0 0:0:1");
    }

    private static void cancelOrders() {
        Group x = new Group(2);
        x.task();
        x.timer(0, 5, 1);
        x.timer(0, 5, 1);
        Check.same("one of another loop, twice", ran(x, 3, 1, 0, 3, 1, 0, 0, 1, 0), "0:0:1");
        Check.same("one is left", x.loop(1, 2), 1);
        Check.same("timer 0", ran(x, 3, 0, 0, 0, 1, 0), "0:0:1");
        Check.same("none is left", x.loop(1, 2), 0);
        Check.same("one that there is not", ran(x, 3, 2, 0, 0, 1, 0), "0:2:3");
        Check.same("timer -1", ran(x, 3, -1, 0, 0, 1, 0), "0:2:4");
    }

    private static void completeOrders() {
        Group x = new Group(1);
        for (int k = 0; k < 3; k++) {
            x.promise(0);
        }
        Check.same("all three", ran(x, 4, 0, 11, 5, 1, 12, 6, 2, 13), "");
        for (int k = 0; k < 3; k++) {
            Check.same("state of " + k, x.look(k, 0), k + 1);
            Check.same("value of " + k, x.look(k, 1), k == 2 ? 0 : 11 + k);
        }
    }

    private static void pinOrder() {
        Group x = new Group(1);
        x.promise(0);
        Check.same("pin, cancel, go on", ran(x, 13, 0, 0, 6, 0, 0, 0, 1, 0), "0:0:1");
        Check.same("pending", x.look(0, 0), 0);
        Check.same("fail", ran(x, 5, 0, 3), "");
        Check.same("failed", x.look(0, 0), 2);
    }

    private static void listenOrders() {
        Group x = new Group(2);
        x.promise(0);
        Check.task(x, 0, 40, 0);
        Check.same("six wait", ran(x, 7, 0, 0, 7, 0, 0, 7, 0, 0, 7, 0, 0, 7, 0, 0, 7, 0, 0), "");
        Check.same("waiting", x.look(0, 2), 6);
        Check.same("a 7th is a throw", ran(x, 0, 1, 0, 7, 0, 0, 0, 2, 0), "0:0:1 0:2:2");
        Check.same("waiting", x.look(0, 2), 6);
    }

    private static void shutdownOrder() {
        Group x = new Group(2);
        x.advance(3);
        Check.same("quiet above timeout", ran(x, 12, 2, 1, 0, 1, 0), "0:2:0");
        Check.same("quiet below 0", ran(x, 12, -1, 1), "0:2:1");
        Check.same("all loops, then on", ran(x, 12, 2, 5, 0, 1, 0), "0:7:3 1:7:3 0:0:1");
        x.advance(2);
        Check.same("quiet", x.step(1), 0);
        x.advance(1);
        Check.same("ends", x.step(1), 3);
        Check.same("ends too", x.step(0), 3);
    }

    private static void throwEndsTheTask() {
        Group x = new Group(1);
        Check.same("the orders behind it are not done", ran(x, 0, 1, 0, 9, 0, 0, 0, 2, 0), "0:0:1 0:2:0");
        Check.same("the loop goes on", ran(x, 0, 3, 0), "0:0:3");
    }

    private static void noneAreThrows() {
        int[][] orders = {
            {1, 1, 0}, {1, -1, 0}, {1, 0, 2}, {1, 0, -3}, {2, 1, 0}, {2, -1, 0}, {2, 0, -1}, {3, 0, 0}, {3, -1, 0},
            {4, 1, 0}, {4, -1, 0}, {5, 1, 0}, {5, -1, 0}, {6, 1, 0}, {6, -1, 0}, {7, 1, 0}, {7, -1, 0}, {7, 0, 1},
            {7, 0, -1}, {8, 1, 0}, {8, -1, 0}, {10, 2, 0}, {10, -1, 0}, {11, 2, 0}, {11, -1, 0}, {12, 1, 0},
            {12, -1, 0}, {12, 0, -1}, {13, 1, 0}, {13, -1, 0}};
        for (int[] order : orders) {
            Group x = new Group(2);
            x.promise(0);
            x.channels(0, 1);
            int task = Check.task(x, order[0], order[1], order[2], 0, 7, 0);
            x.execute(task, 0);
            x.step(0);
            Check.traceIs("kind " + order[0] + " with " + order[1] + ", " + order[2], x, "0:7:2 0:1:0 0:2:0");
        }
    }

    private static void doneIsNoThrow() {
        Group x = new Group(1);
        x.promise(0);
        x.complete(0, 1, 2);
        Check.same("orders at a promise that is done", ran(x, 4, 0, 1, 5, 0, 1, 6, 0, 1, 13, 0, 0, 8, 0, 0, 0, 1, 0), "0:0:1");
        Check.same("its value", x.look(0, 1), 2);
    }
}
