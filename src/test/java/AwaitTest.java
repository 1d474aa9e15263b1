/** Terms: which awaits block, which are refused and which go on. */
final class AwaitTest {
    public static void main(String[] args) {
        byTheExecutor();
        ofOneThatIsDone();
        withinAListenerThatRunsNow();
        withinAPipeline();
        byAnExecutedListener();
        behindAListenerThatRan();
        theThrowBehindIt();
        byTheLoopThatIsBlockedNoMore();
        Check.end();
    }

    private static void byTheExecutor() {
        Group x = new Group(1);
        x.promise(0);
        Check.task(x, 8, 0, 0, 0, 1, 0);
        x.execute(0, 0);
        Check.same("step", x.step(0), 1);
        Check.traceIs("refused, the orders go on", x, "0:7:2 0:1:0 0:3:0 0:0:1");
        Check.same("not blocked", x.loop(0, 3), 0);
    }

    private static void ofOneThatIsDone() {
        Group x = new Group(2);
        x.promise(0);
        Check.task(x, 8, 0, 0, 0, 1, 0);
        x.complete(0, 3, 0);
        x.execute(0, 0);
        x.execute(0, 1);
        x.step(0);
        x.step(1);
        Check.traceIs("no log", x, "0:7:2 1:7:2 0:1:0 0:0:1 1:1:0 1:0:1");
    }

    private static void withinAListenerThatRunsNow() {
        Group x = new Group(2);
        x.promise(0);
        x.promise(1);
        Check.task(x, 4, 0, 0, 0, 1, 0);
        Check.task(x, 8, 1, 0, 0, 2, 0);
        x.listen(0, 1);
        x.execute(0, 0);
        x.step(0);
        Check.traceIs("refused", x, "0:7:2 0:1:0 0:5:1 0:3:1 0:0:2 0:0:1");
        Check.same("not blocked", x.loop(0, 3), 0);
    }

    private static void withinAPipeline() {
        Group x = new Group(2);
        x.promise(1);
        x.channels(0, 0);
        Check.task(x, 8, 0, 0, 0, 2, 0);
        x.handler(0, 4, 0, -1);
        x.fire(0, 5);
        x.step(0);
        Check.traceIs("of a message from the queue", x, "0:7:2 0:1:-1 0:6:5 0:3:0 0:0:2 0:8:5");
        Check.task(x, 10, 0, 6, 0, 3, 0);
        x.execute(1, 0);
        x.step(0);
        Check.traceIs("of one that is fired now", x, 6, "0:1:1 0:6:6 0:3:0 0:0:2 0:8:6 0:0:3");
    }

    private static void byAnExecutedListener() {
        Group x = new Group(2);
        x.promise(0);
        x.promise(1);
        Check.task(x, 8, 1, 0, 9, 0, 0);
        x.listen(0, 0);
        x.complete(0, 1, 0);
        Check.same("it runs", x.step(0), 1);
        Check.same("it blocks", x.loop(0, 3), 1);
        x.complete(1, 1, 0);
        x.step(0);
        Check.traceIs("on behind it", x, "0:7:2 0:5:0 0:10:1 0:2:0");
    }

    private static void behindAListenerThatRan() {
        Group x = new Group(2);
        x.promise(0);
        x.promise(1);
        x.channels(0, 0);
        Check.task(x, 4, 0, 0, 10, 0, 1, 8, 1, 0);
        x.task();
        x.listen(0, 1);
        x.execute(0, 0);
        x.step(0);
        Check.same("the task itself may block", x.loop(0, 3), 1);
    }

    private static void theThrowBehindIt() {
        Group x = new Group(2);
        x.promise(1);
        Check.task(x, 8, 0, 0, 9, 0, 0, 0, 1, 0);
        x.execute(0, 0);
        x.step(0);
        x.complete(0, 1, 0);
        Check.same("something ran", x.step(0), 1);
        Check.traceIs("10, then the throw", x, "0:7:2 0:1:0 0:10:0 0:2:0");
    }

    private static void byTheLoopThatIsBlockedNoMore() {
        Group x = new Group(3);
        x.promise(2);
        Check.task(x, 8, 0, 0, 0, 1, 0);
        Check.task(x, 4, 0, 3);
        x.execute(0, 0);
        x.execute(0, 1);
        x.step(0);
        x.step(1);
        x.execute(1, 2);
        x.step(2);
        Check.same("1 goes on first", x.step(1), 1);
        Check.same("then 0", x.step(0), 1);
        Check.traceIs("all", x, 5, "2:1:1 1:10:0 1:0:1 0:10:0 0:0:1");
    }
}
