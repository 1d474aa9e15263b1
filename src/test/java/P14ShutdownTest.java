/** Promise 14: the shutdown with its quiet period and timeout. */
final class P14ShutdownTest {
    public static void main(String[] args) {
        wrong();
        statesOfAll();
        quietPeriod();
        tasksMakeItWait();
        timeout();
        quietOfZero();
        lateIsNotLookedAtWhileTasksRun();
        aSecondOneChangesNothing();
        timersGo();
        blockedStaysBlocked();
        resumingIsNoBegin();
        beganBefore();
        Check.end();
    }

    private static void wrong() {
        Group x = new Group(1);
        Check.illegalArgument("quiet above timeout", () -> x.shutdown(3, 2));
        Check.illegalArgument("quiet -1", () -> x.shutdown(-1, 2));
        Check.illegalArgument("both below 0", () -> x.shutdown(-2, -1));
        Check.illegalArgument("timeout -1", () -> x.shutdown(0, -1));
        Check.same("state", x.loop(0, 0), 1);
        x.shutdown(Integer.MAX_VALUE, Integer.MAX_VALUE);
        Check.same("the most", x.loop(0, 0), 3);
    }

    private static void statesOfAll() {
        Group x = new Group(4);
        x.task();
        x.execute(0, 2);
        x.shutdown(1, 1);
        Check.traceIs("loops in turn", x, "2:7:2 0:7:3 1:7:3 2:7:3 3:7:3");
        x.shutdown(0, 0);
        Check.same("they change once", x.traced(), 5);
        x.execute(0, 0);
        Check.same("an execute starts none again", x.traced(), 5);
    }

    private static void quietPeriod() {
        Group x = new Group(1);
        x.advance(50);
        x.shutdown(5, 100);
        Check.same("at once", x.step(0), 0);
        x.advance(5);
        Check.same("quiet, not more", x.step(0), 0);
        x.advance(1);
        int from = x.traced();
        Check.same("more than quiet", x.step(0), 3);
        Check.traceIs("two states with one step", x, from, "0:7:4 0:7:5");
        Check.same("state", x.loop(0, 0), 5);
        Check.same("behind the end", x.step(0), 0);
        x.shutdown(0, 0);
        Check.same("terminated for good", x.loop(0, 0), 5);
    }

    private static void tasksMakeItWait() {
        Group x = new Group(1);
        Check.task(x, 0, 1, 0);
        x.shutdown(5, 100);
        x.advance(4);
        x.execute(0, 0);
        x.advance(4);
        Check.same("a task begins at 8", x.step(0), 1);
        x.advance(5);
        Check.same("5 since", x.step(0), 0);
        x.advance(1);
        Check.same("6 since", x.step(0), 3);
        messagesAndListenersToo();
    }

    private static void messagesAndListenersToo() {
        Group x = new Group(2);
        x.channels(0, 0);
        x.task();
        x.promise(1);
        x.complete(0, 1, 0);
        x.shutdown(5, 100);
        x.advance(5);
        x.fire(0, 1);
        x.listen(0, 0);
        x.step(0);
        x.step(1);
        x.advance(5);
        Check.same("a message counts", x.step(0), 0);
        Check.same("a listener counts", x.step(1), 0);
        x.advance(1);
        Check.same("then", x.step(0), 3);
        Check.same("and", x.step(1), 3);
    }

    private static void timeout() {
        Group x = new Group(1);
        x.task();
        x.advance(7);
        x.shutdown(5, 8);
        for (int k = 0; k < 4; k++) {
            x.advance(2);
            x.execute(0, 0);
            Check.same("a task", x.step(0), 1);
            Check.same("not yet quiet", x.step(0), 0);
        }
        x.execute(0, 0);
        x.advance(1);
        Check.same("a task runs though it is late", x.step(0), 1);
        Check.same("more than the timeout", x.step(0), 3);
    }

    private static void quietOfZero() {
        Group x = new Group(1);
        x.task();
        x.execute(0, 0);
        x.shutdown(0, 1000);
        Check.same("what is in the queue runs", x.step(0), 1);
        Check.same("then it ends at once", x.step(0), 3);
    }

    private static void lateIsNotLookedAtWhileTasksRun() {
        Group x = new Group(1);
        Check.task(x, 1, 0, -1);
        x.execute(0, 0);
        x.shutdown(1, 1);
        for (int k = 0; k < 40; k++) {
            x.advance(100);
            Check.same("it runs on", x.step(0), 1);
        }
        Check.same("shutting down", x.loop(0, 0), 3);
    }

    private static void aSecondOneChangesNothing() {
        Group x = new Group(1);
        x.shutdown(5, 9);
        x.advance(3);
        x.shutdown(0, 0);
        Check.same("the first one's quiet period", x.step(0), 0);
        x.advance(3);
        Check.same("since the first", x.step(0), 3);
    }

    private static void timersGo() {
        Group x = new Group(1);
        Check.task(x, 2, 0, 3, 0, 5, 0);
        x.timer(0, 0, 0);
        x.timer(0, 9, 0);
        x.step(0);
        x.timer(0, 0, 0);
        x.shutdown(1, 1);
        Check.same("they are there until it steps", x.loop(0, 2), 3);
        Check.same("the step", x.step(0), 0);
        Check.same("then not", x.loop(0, 2), 0);
        x.execute(0, 0);
        int from = x.traced();
        x.step(0);
        Check.traceIs("an order's timer is rejected, and is no throw", x, from, "0:1:0 0:4:0 0:0:5");
        timersInTheQueueStay();
    }

    private static void timersInTheQueueStay() {
        Group x = new Group(1);
        x.task();
        x.timer(0, 0, 0);
        x.timer(0, 0, 0);
        x.step(0);
        x.shutdown(0, 0);
        Check.same("one is a task of the queue by now", x.step(0), 1);
        Check.same("then it ends", x.step(0), 3);
    }

    private static void blockedStaysBlocked() {
        Group x = new Group(2);
        x.promise(1);
        Check.task(x, 8, 0, 0, 0, 4, 0);
        x.timer(0, 50, 0);
        x.execute(0, 0);
        x.step(0);
        x.shutdown(0, 0);
        Check.same("timers before its step", x.loop(0, 2), 1);
        Check.same("blocked still", x.step(0), 2);
        Check.same("its timers went", x.loop(0, 2), 0);
        Check.same("the other ends", x.step(1), 3);
        x.advance(100);
        Check.same("blocked still, late as it is", x.step(0), 2);
        x.complete(0, 1, 0);
        Check.same("it goes on", x.step(0), 1);
        Check.same("and ends", x.step(0), 3);
    }

    private static void resumingIsNoBegin() {
        Group x = new Group(2);
        x.promise(1);
        Check.task(x, 8, 0, 0);
        x.shutdown(5, 100);
        x.advance(1);
        x.execute(0, 0);
        x.step(0);
        x.advance(5);
        x.complete(0, 1, 0);
        Check.same("it goes on at 6", x.step(0), 1);
        Check.same("5 since it began", x.step(0), 0);
        x.advance(1);
        Check.same("6 since it began, 1 since it went on", x.step(0), 3);
    }

    private static void beganBefore() {
        Group x = new Group(1);
        x.task();
        x.execute(0, 0);
        x.step(0);
        x.advance(10);
        x.shutdown(5, 9);
        Check.same("START counts, not what began before", x.step(0), 0);
        x.advance(6);
        Check.same("more than quiet since START", x.step(0), 3);
    }
}
