/** Promise 8: execute by the host, its chooser and its rejections. */
final class P08ExecuteTest {
    public static void main(String[] args) {
        startsAndQueues();
        wrong();
        fullQueue();
        afterTheEnd();
        chooserOfAll();
        chooserCountsRejected();
        Check.end();
    }

    private static void startsAndQueues() {
        Group x = new Group(2);
        Check.task(x, 0, 10, 0);
        Check.task(x, 0, 11, 0);
        Check.same("the loop", x.execute(0, 1), 1);
        Check.same("started", x.loop(1, 0), 2);
        Check.same("the other is not", x.loop(0, 0), 1);
        Check.same("again", x.execute(1, 1), 1);
        Check.same("and again", x.execute(0, 1), 1);
        Check.same("queue", x.loop(1, 1), 3);
        Check.traceIs("started once", x, "1:7:2");
        x.step(1);
        x.step(1);
        x.step(1);
        Check.traceIs("first in, first out", x, "1:7:2 1:1:0 1:0:10 1:1:1 1:0:11 1:1:0 1:0:10");
    }

    private static void wrong() {
        Group x = new Group(3);
        x.task();
        Check.illegalArgument("task 1", () -> x.execute(1, 0));
        Check.illegalArgument("task -1", () -> x.execute(-1, 0));
        Check.illegalArgument("loop 3", () -> x.execute(0, 3));
        Check.illegalArgument("loop -1 is of orders alone", () -> x.execute(0, -1));
        Check.illegalArgument("loop -3", () -> x.execute(0, -3));
        Check.illegalArgument("no task for the chooser", () -> x.execute(1, -2));
        Check.same("the chooser did not count that", x.execute(0, -2), 0);
        Check.traceIs("nothing else logged", x, "0:7:2");
    }

    private static void fullQueue() {
        Group x = new Group(2);
        x.task();
        x.task();
        for (int k = 0; k < 24; k++) {
            Check.same("execute", x.execute(0, 1), 1);
        }
        int from = x.traced();
        Check.illegalState("a 25th", () -> x.execute(1, 1));
        Check.traceIs("rejected by the host", x, from, "-1:4:1");
        Check.same("queue", x.loop(1, 1), 24);
        x.step(1);
        Check.same("there is room again", x.execute(1, 1), 1);
        Check.illegalState("full again", () -> x.execute(0, 1));
    }

    private static void afterTheEnd() {
        Group x = new Group(1);
        x.task();
        x.shutdown(0, 0);
        Check.same("a loop that is shutting down takes it", x.execute(0, 0), 0);
        Check.same("its state stays", x.loop(0, 0), 3);
        x.step(0);
        Check.same("terminated", x.step(0), 3);
        int from = x.traced();
        Check.illegalState("terminated", () -> x.execute(0, 0));
        Check.traceIs("rejected", x, from, "-1:4:0");
        Check.same("queue", x.loop(0, 1), 0);
    }

    private static void chooserOfAll() {
        for (int n = 1; n <= 8; n++) {
            Group x = new Group(n);
            x.task();
            for (int k = 0; k < 3 * n + 1; k++) {
                Check.same("chooser of " + n + ", time " + k, x.execute(0, -2), k % n);
                Check.same("a named loop does not count", x.execute(0, n - 1), n - 1);
                x.step(n - 1);
                x.step(n - 1);
            }
        }
    }

    private static void chooserCountsRejected() {
        Group x = new Group(3);
        x.task();
        for (int k = 0; k < 24; k++) {
            x.execute(0, 1);
        }
        Check.same("0", x.execute(0, -2), 0);
        Check.illegalState("1 is full", () -> x.execute(0, -2));
        Check.same("2", x.execute(0, -2), 2);
        Check.same("0 again", x.execute(0, -2), 0);
    }
}
