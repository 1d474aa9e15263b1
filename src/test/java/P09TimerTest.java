/** Promise 9: timers by the host, their numbers, deadlines and rejections. */
final class P09TimerTest {
    public static void main(String[] args) {
        numbersAndLog();
        wrong();
        deadlines();
        orderOfDeadlinesThenNumbers();
        behindTheQueue();
        mostAtALoop();
        mostEver();
        farDeadline();
        shuttingDown();
        onlyAtTheBatchsBegin();
        roomInTheQueue();
        allOfALoopAreDue();
        Check.end();
    }

    private static void numbersAndLog() {
        Group x = new Group(2);
        x.task();
        Check.same("first", x.timer(0, 5, 1), 0);
        Check.same("second", x.timer(0, 5, 1), 1);
        Check.same("third", x.timer(0, 0, 0), 2);
        Check.traceIs("made by the host, behind the start", x, "1:7:2 -1:9:0 -1:9:1 0:7:2 -1:9:2");
        Check.same("timers", x.loop(1, 2), 2);
        Check.same("not in the queue", x.loop(1, 1), 0);
    }

    private static void wrong() {
        Group x = new Group(2);
        x.task();
        Check.illegalArgument("task 1", () -> x.timer(1, 0, 0));
        Check.illegalArgument("task -1", () -> x.timer(-1, 0, 0));
        Check.illegalArgument("delay -1", () -> x.timer(0, -1, 0));
        Check.illegalArgument("loop 2", () -> x.timer(0, 0, 2));
        Check.illegalArgument("loop -1", () -> x.timer(0, 0, -1));
        Check.illegalArgument("loop -2", () -> x.timer(0, 0, -2));
        Check.same("nothing logged", x.traced(), 0);
        Check.same("no number used", x.timer(0, 0, 0), 0);
    }

    private static void deadlines() {
        Group x = new Group(1);
        x.task();
        x.advance(100);
        x.timer(0, 10, 0);
        x.advance(9);
        Check.same("a millisecond too early", x.step(0), 0);
        Check.same("it waits", x.loop(0, 2), 1);
        x.advance(1);
        Check.same("at its deadline", x.step(0), 1);
        Check.same("it is gone", x.loop(0, 2), 0);
        Check.same("once", x.step(0), 0);
        x.timer(0, 0, 0);
        Check.same("0 is due at once", x.step(0), 1);
    }

    private static void orderOfDeadlinesThenNumbers() {
        Group x = new Group(1);
        for (int k = 0; k < 5; k++) {
            x.task();
        }
        int[] delays = {30, 10, 20, 10, 0};
        for (int k = 0; k < 5; k++) {
            x.timer(k, delays[k], 0);
        }
        x.cancel(4);
        x.timer(4, 10, 0);
        x.advance(25);
        int from = x.traced();
        for (int k = 0; k < 6; k++) {
            x.step(0);
        }
        Check.traceIs("deadlines, then numbers", x, from, "0:1:1 0:1:3 0:1:4 0:1:2");
        Check.same("the last one waits", x.loop(0, 2), 1);
    }

    private static void behindTheQueue() {
        Group x = new Group(1);
        x.task();
        x.task();
        x.timer(0, 0, 0);
        x.execute(1, 0);
        int from = x.traced();
        x.step(0);
        x.step(0);
        Check.traceIs("timers go to the queue's end", x, from, "0:1:1 0:1:0");
    }

    private static void mostAtALoop() {
        Group x = new Group(2);
        x.task();
        for (int k = 0; k < 24; k++) {
            Check.same("timer", x.timer(0, 1, 0), k);
        }
        int from = x.traced();
        Check.illegalState("a 25th", () -> x.timer(0, 1, 0));
        Check.traceIs("rejected", x, from, "-1:4:0");
        Check.same("another loop has room, and no number is lost", x.timer(0, 1, 1), 24);
        x.cancel(3);
        Check.same("room again", x.timer(0, 1, 0), 25);
    }

    private static void mostEver() {
        Group x = new Group(8);
        int eight = ManyTimers.make(x);
        for (int number = ManyTimers.MADE; number < 400; number++) {
            Check.same("timer", x.timer(eight, 0, 6), number);
        }
        int from = x.traced();
        Check.illegalState("a 401st", () -> x.timer(eight, 0, 6));
        Check.illegalState("and one of a loop that is not started", () -> x.timer(eight, 0, 7));
        Check.traceIs("rejected", x, from, "-1:4:0 -1:4:0");
        Check.same("its loop is not started by it", x.loop(7, 0), 1);
        Check.same("the 400th waits", x.cancel(399), true);
        Check.illegalState("400 ever, not at once", () -> x.timer(eight, 0, 6));
        x.execute(eight, 7);
        from = x.traced();
        x.step(7);
        Check.traceIs("orders are rejected too", x, from,
            "7:1:0 7:4:0 7:4:0 7:4:0 7:4:0 7:4:0 7:4:0 7:4:0 7:4:0");
    }

    private static void farDeadline() {
        Group x = new Group(1);
        x.task();
        x.advance(1000000);
        x.timer(0, Integer.MAX_VALUE, 0);
        Check.same("a deadline above the ints", x.step(0), 0);
        Check.same("it waits", x.loop(0, 2), 1);
    }

    private static void shuttingDown() {
        Group x = new Group(1);
        x.task();
        x.shutdown(5, 5);
        int from = x.traced();
        Check.illegalState("shutting down", () -> x.timer(0, 0, 0));
        x.advance(6);
        Check.same("terminated", x.step(0), 3);
        Check.illegalState("terminated", () -> x.timer(0, 0, 0));
        Check.traceIs("both rejected", x, from, "-1:4:0 0:7:4 0:7:5 -1:4:0");
    }

    private static void onlyAtTheBatchsBegin() {
        Group x = new Group(1);
        x.task();
        x.task();
        x.timer(1, 1, 0);
        for (int k = 0; k < 3; k++) {
            x.execute(0, 0);
        }
        x.step(0);
        x.advance(5);
        x.step(0);
        Check.same("it is due, but the batch goes on", x.loop(0, 2), 1);
        x.execute(0, 0);
        int from = x.traced();
        for (int k = 0; k < 3; k++) {
            x.step(0);
        }
        Check.traceIs("the new batch", x, from, "0:1:0 0:1:0 0:1:1");
    }

    private static void roomInTheQueue() {
        Group x = new Group(1);
        x.task();
        x.task();
        for (int k = 0; k < 5; k++) {
            x.timer(1, 5 - k, 0);
        }
        x.advance(5);
        for (int k = 0; k < 21; k++) {
            x.execute(0, 0);
        }
        x.step(0);
        Check.same("three had room", x.loop(0, 2), 2);
        Check.same("queue", x.loop(0, 1), 23);
        Check.same("the latest deadlines stay", x.cancel(0), true);
        Check.same("and", x.cancel(1), true);
        Check.same("not the others", x.cancel(2) || x.cancel(3) || x.cancel(4), false);
    }

    private static void allOfALoopAreDue() {
        Group x = new Group(1);
        x.task();
        for (int k = 0; k < 24; k++) {
            x.timer(0, k % 3, 0);
        }
        x.advance(2);
        x.step(0);
        Check.same("none waits", x.loop(0, 2), 0);
        Check.same("one began", x.loop(0, 1), 23);
        Check.same("a batch of 16", x.loop(0, 4), 15);
    }
}
