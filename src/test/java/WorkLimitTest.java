/** Terms: in one step at most 1,000 orders are done and echoes written together. */
final class WorkLimitTest {
    private static final int LEAF = 0;
    private static final int FIRES = 1;
    private static final int LAST = 2;

    public static void main(String[] args) {
        theThousandthIsDone();
        anOrderMoreIsAThrow();
        everyOpenTaskThrows();
        refusedAndRejectedOrdersCount();
        echoesCount();
        anEchoMoreIsNotWritten();
        theNextStepBeginsAnew();
        goingOnBeginsAnew();
        theAwaitIsOfTheStepBefore();
        Check.end();
    }

    /**
     * A group whose channel 2, when it gets a message, does 992 orders and then `more` of the task LAST:
     * three times FIRES, which is 8 * (1 + 5 * 8) orders by the five handlers of channel 0 that run LEAF,
     * and once LEAF. LEAF's orders are of a kind with a number a. One place is free for a last handler.
     */
    private static Group busy(int more, int kind, int a) {
        Group x = new Group(3);
        x.promise(1);
        for (int pair = 0; pair < 2; pair++) {
            x.channels(0, 1);
        }
        for (int task = 0; task < 3; task++) {
            x.task();
        }
        for (int k = 0; k < 8; k++) {
            x.order(LEAF, kind, a, 2);
            x.order(FIRES, 10, 0, 1);
        }
        for (int k = 0; k < more; k++) {
            x.order(LAST, 0, 70 + k, 0);
        }
        for (int k = 0; k < 5; k++) {
            x.handler(0, 4, LEAF, -1);
        }
        for (int task : new int[] {FIRES, FIRES, FIRES, LEAF, LAST}) {
            x.handler(2, 4, task, -1);
        }
        return x;
    }

    private static Group stepped(Group x) {
        x.fire(2, 1);
        Check.same("it ends", x.step(0), 1);
        return x;
    }

    private static String tail(Group x, int entries) {
        return Check.trace(x, x.traced() - entries);
    }

    private static int logged(Group x, int kind) {
        int count = 0;
        int end = x.traced();
        for (int k = Math.max(0, end - 300); k < end; k++) {
            count += x.trace(k, 1) == kind ? 1 : 0;
        }
        return count;
    }

    private static void theThousandthIsDone() {
        Group x = stepped(busy(8, 0, 5));
        Check.same("all of the last task", tail(x, 4), "0:0:75 0:0:76 0:0:77 0:8:1");
        Check.same("no throw", logged(x, 2), 0);
        // Start and begin, 5 handlers, 24 messages of 5 handlers and an end, 1,000 orders but the 24, the end.
        Check.same("all entries", x.traced(), 2 + 5 + 24 * 6 + 976 + 1);
    }

    private static void anOrderMoreIsAThrow() {
        Group x = busy(8, 0, 5);
        int more = Check.task(x, 0, 99, 0);
        x.handler(2, 4, more, -1);
        Check.same("its first order", tail(stepped(x), 4), "0:0:77 0:6:10000001 0:2:3 0:8:1");
        Group y = busy(7, 0, 5);
        more = Check.task(y, 0, 99, 0, 0, 98, 0);
        y.handler(2, 4, more, -1);
        Check.same("its second", tail(stepped(y), 5), "0:0:76 0:6:10000001 0:0:99 0:2:3 0:8:1");
        Group z = busy(8, 0, 5);
        z.handler(2, 4, z.task(), -1);
        Check.same("one without orders does not throw", tail(stepped(z), 3), "0:0:77 0:6:10000001 0:8:1");
    }

    private static void everyOpenTaskThrows() {
        Group x = busy(7, 0, 5);
        x.handler(2, 4, FIRES, -1);
        Check.same("the inner ones, then the outer one", tail(stepped(x), 14),
            "0:6:10000001 0:6:1 0:2:0 0:6:1000001 0:2:0 0:6:2000001 0:2:0 0:6:3000001 0:2:0 0:6:4000001 0:2:0 "
            + "0:8:1 0:2:1 0:8:1");
    }

    private static void refusedAndRejectedOrdersCount() {
        Group refused = busy(8, 8, 0);
        refused.handler(2, 4, Check.task(refused, 0, 99, 0), -1);
        Check.same("refused awaits", tail(stepped(refused), 2), "0:2:3 0:8:1");
        Group rejected = busy(8, 1, LAST);
        rejected.handler(2, 4, Check.task(rejected, 0, 99, 0), -1);
        Check.same("rejected tasks", tail(stepped(rejected), 2), "0:2:3 0:8:1");
        Check.same("most were", rejected.loop(2, 1), 24);
    }

    /**
     * A message of channel 0 is 1 + 5 * 8 orders and an echo, a round 336, and behind two rounds and seven
     * messages 34 are left: FIRE, four LEAFs, one LOG of the fifth.
     */
    private static void echoesCount() {
        Group x = busy(0, 0, 5);
        x.handler(2, 0, 0, 4);
        x.handler(2, 0, 0, 3);
        x.handler(0, 3, 0, -1);
        stepped(x);
        Check.same("the end", tail(x, 6), "0:6:4000001 0:0:5 0:2:0 0:6:10000001 0:8:1 0:8:1");
        Check.same("echoes but the 24th", x.loop(1, 1), 23);
    }

    private static void anEchoMoreIsNotWritten() {
        Group x = busy(7, 0, 5);
        x.handler(2, 3, 0, -1);
        stepped(x);
        Check.same("the 1,000th is an echo", x.loop(1, 1), 1);
        Check.same("passed on", tail(x, 4), "0:0:76 0:6:10000001 1:7:2 0:8:1");
        Group y = busy(8, 0, 5);
        y.handler(2, 3, 0, -1);
        stepped(y);
        Check.same("an echo more", y.loop(1, 1), 0);
        Check.same("passed on too", tail(y, 3), "0:0:77 0:6:10000001 0:8:1");
    }

    private static void theNextStepBeginsAnew() {
        Group x = stepped(busy(8, 0, 5));
        x.execute(LAST, 0);
        x.step(0);
        Check.same("no throw", tail(x, 3), "0:0:75 0:0:76 0:0:77");
    }

    private static void goingOnBeginsAnew() {
        Group x = busy(8, 0, 5);
        x.handler(2, 0, 0, 4);
        int task = Check.task(x, 10, 2, 1, 8, 0, 0, 0, 80, 0, 0, 81, 0, 10, 2, 1, 0, 82, 0);
        x.execute(task, 0);
        x.step(0);
        Check.same("blocked", x.loop(0, 3), 1);
        x.complete(0, 1, 0);
        x.step(0);
        Check.same("all that is behind the await", tail(x, 2), "0:8:1 0:0:82");
    }

    private static void theAwaitIsOfTheStepBefore() {
        Group x = busy(7, 0, 5);
        x.execute(Check.task(x, 8, 0, 0, 10, 2, 1), 0);
        x.step(0);
        x.complete(0, 1, 0);
        x.step(0);
        Check.same("the FIRE and 999 more", tail(x, 2), "0:0:76 0:8:1");
    }
}
