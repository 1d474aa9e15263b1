/** Terms: how listeners are notified, within one another and by other threads. */
final class NotifyTest {
    public static void main(String[] args) {
        nowByTheExecutor();
        executedByOthers();
        doneAtOnce();
        addedWhileOthersAreNotified();
        throwsEndItAlone();
        fourWithinOneAnother();
        theFifthIsRejected();
        anExecutedOneIsNoNesting();
        Check.end();
    }

    private static void nowByTheExecutor() {
        Group x = new Group(1);
        x.promise(0);
        Check.task(x, 0, 1, 0, 4, 0, 9, 0, 2, 0);
        Check.task(x, 0, 30, 0);
        Check.task(x, 0, 31, 0);
        x.listen(0, 2);
        x.listen(0, 1);
        x.execute(0, 0);
        x.step(0);
        Check.traceIs("within the completion, in their order", x,
            "0:7:2 0:1:0 0:0:1 0:5:2 0:0:31 0:5:1 0:0:30 0:0:2");
        Check.same("none waits", x.look(0, 2), 0);
        Check.same("none is executed", x.loop(0, 1), 0);
    }

    private static void executedByOthers() {
        Group x = new Group(2);
        x.promise(1);
        Check.task(x, 6, 0, 0, 0, 2, 0);
        Check.task(x, 0, 30, 0);
        x.listen(0, 1);
        x.execute(0, 0);
        x.step(0);
        x.step(1);
        Check.traceIs("on the executor", x, "0:7:2 0:1:0 1:7:2 0:0:2 1:5:1 1:0:30");
    }

    private static void doneAtOnce() {
        Group x = new Group(2);
        x.promise(0);
        Check.task(x, 7, 0, 1, 0, 2, 0);
        Check.task(x, 0, 30, 0);
        x.complete(0, 2, 0);
        x.execute(0, 0);
        x.execute(0, 1);
        x.step(0);
        Check.traceIs("now by the executor", x, 2, "0:1:0 0:5:1 0:0:30 0:0:2");
        x.step(1);
        x.step(0);
        Check.traceIs("executed by another", x, 6, "1:1:0 1:0:2 0:5:1 0:0:30");
    }

    private static void addedWhileOthersAreNotified() {
        Group x = new Group(1);
        x.promise(0);
        Check.task(x, 4, 0, 0);
        Check.task(x, 7, 0, 3, 0, 1, 0);
        Check.task(x, 0, 2, 0);
        Check.task(x, 0, 3, 0);
        x.listen(0, 1);
        x.listen(0, 2);
        x.execute(0, 0);
        x.step(0);
        Check.traceIs("at once", x, "0:7:2 0:1:0 0:5:1 0:5:3 0:0:3 0:0:1 0:5:2 0:0:2");
    }

    private static void throwsEndItAlone() {
        Group x = new Group(1);
        x.promise(0);
        Check.task(x, 4, 0, 0, 0, 9, 0);
        Check.task(x, 9, 0, 0, 0, 1, 0);
        Check.task(x, 0, 2, 0);
        x.listen(0, 1);
        x.listen(0, 2);
        x.execute(0, 0);
        x.step(0);
        Check.traceIs("the others go on", x, "0:7:2 0:1:0 0:5:1 0:2:1 0:5:2 0:0:2 0:0:9");
        x.listen(0, 1);
        x.step(0);
        Check.traceIs("an executed one throws too", x, 7, "0:5:1 0:2:1");
    }

    /** Task k completes promise k, at which task k + 1 listens, all on loop 0. */
    private static Group chain(int length) {
        Group x = new Group(1);
        for (int k = 0; k < length; k++) {
            x.promise(0);
            Check.task(x, 4, k, 0, 0, 50 + k, 0);
        }
        for (int k = 1; k < length; k++) {
            x.listen(k - 1, k);
        }
        return x;
    }

    private static void fourWithinOneAnother() {
        Group x = chain(7);
        x.execute(0, 0);
        x.step(0);
        Check.traceIs("four run now, the fifth is executed", x,
            "0:7:2 0:1:0 0:5:1 0:5:2 0:5:3 0:5:4 0:0:54 0:0:53 0:0:52 0:0:51 0:0:50");
        Check.same("queue", x.loop(0, 1), 1);
        x.step(0);
        Check.traceIs("it begins anew", x, 11, "0:5:5 0:5:6 0:0:56 0:0:55");
    }

    private static void theFifthIsRejected() {
        Group x = chain(6);
        x.execute(0, 0);
        x.task();
        for (int k = 0; k < 23; k++) {
            x.execute(6, 0);
        }
        Check.task(x, 1, 6, 0, 1, 6, 0, 1, 6, 0);
        x.listen(0, 7);
        x.order(0, 0, 1, 0);
        int from = x.traced();
        x.step(0);
        Check.traceIs("one has the room that the task left", x, from,
            "0:1:0 0:5:1 0:5:2 0:5:3 0:5:4 0:0:54 0:0:53 0:0:52 0:0:51 0:5:7 0:4:6 0:4:6 0:4:6 0:0:50 0:0:1");
        x.listen(0, 6);
        Check.traceIs("lost", x, x.traced() - 1, "-1:4:6");
        lostOnTheLoop();
    }

    private static void lostOnTheLoop() {
        Group x = chain(6);
        Check.task(x, 1, 0, 0);
        x.order(0, 0, 1, 0);
        x.listen(3, 6);
        x.execute(0, 0);
        for (int k = 0; k < 23; k++) {
            x.execute(6, 0);
        }
        x.listen(4, 6);
        int from = x.traced();
        x.step(0);
        Check.traceIs("the second of the fifth's", x, from,
            "0:1:0 0:5:1 0:5:2 0:5:3 0:5:4 0:4:6 0:0:54 0:5:6 0:4:0 0:0:53 0:0:52 0:0:51 0:0:50 0:0:1");
    }

    private static void anExecutedOneIsNoNesting() {
        Group x = chain(6);
        x.complete(0, 1, 0);
        x.step(0);
        Check.traceIs("four more within it", x,
            "0:7:2 0:5:1 0:5:2 0:5:3 0:5:4 0:5:5 0:0:55 0:0:54 0:0:53 0:0:52 0:0:51");
    }
}
