/** Terms: what handlers do with messages and with what was thrown, and how messages nest. */
final class PipelineTest {
    public static void main(String[] args) {
        passesAndAdds();
        addsAsAnInt();
        swallowsOdd();
        echoes();
        echoesOnOneLoop();
        runsItsTask();
        throwsOnThrees();
        skipsWhatIsNotTheirs();
        fireOrders();
        writeOrders();
        fourWithinOneAnother();
        nestingIsRejected();
        Check.end();
    }

    /** A group with channels 0 and 1 on loop 0, the handlers of these kinds (task 0) at channel 0. */
    private static Group group(int... kinds) {
        Group x = new Group(2);
        x.task();
        x.channels(0, 0);
        for (int kind : kinds) {
            x.handler(0, kind, 0, -1);
        }
        return x;
    }

    private static String fired(Group x, int message) {
        x.fire(0, message);
        int from = x.traced();
        x.step(0);
        return Check.trace(x, from);
    }

    private static void passesAndAdds() {
        Group x = group(0, 0, 1, 1, 0);
        Check.same("2 and 3 are added", fired(x, 10), "0:1:-1 0:6:10 0:6:1000010 0:6:2000010 0:6:3000012 0:6:4000015 0:8:15");
        x.handler(0, 0, 0, 0);
        Check.same("its number, not its place", fired(x, 10), "0:1:-1 0:6:1000010 0:6:2000010 0:6:3000012 0:6:4000015 0:8:15");
    }

    private static void addsAsAnInt() {
        Group x = group(0, 1);
        int most = Integer.MAX_VALUE;
        Check.same("wrapped round", fired(x, most), "0:1:-1 0:6:" + most + " 0:6:" + (1000000 + most) + " 0:8:" + (most + 1));
    }

    private static void swallowsOdd() {
        Group x = group(2, 0);
        Check.same("4", fired(x, 4), "0:1:-1 0:6:4 0:6:1000004 0:8:4");
        Check.same("5", fired(x, 5), "0:1:-1 0:6:5");
        Check.same("-5", fired(x, -5), "0:1:-1 0:6:-5");
        Check.same("-4", fired(x, -4), "0:1:-1 0:6:-4 0:6:999996 0:8:-4");
        Check.same("0", fired(x, 0), "0:1:-1 0:6:0 0:6:1000000 0:8:0");
    }

    private static void echoes() {
        Group x = new Group(2);
        x.channels(0, 1);
        x.handler(0, 3, 0, -1);
        x.handler(0, 1, 0, -1);
        x.handler(1, 0, 0, -1);
        Check.same("the other loop gets it executed", fired(x, 7), "0:1:-1 0:6:7 1:7:2 0:6:1000007 0:8:8");
        x.step(1);
        Check.traceIs("as it was", x, x.traced() - 3, "1:1:-1 1:6:2000007 1:8:7");
        for (int k = 0; k < 24; k++) {
            x.fire(1, 0);
        }
        Check.same("a rejected echo", fired(x, 7), "0:1:-1 0:6:7 0:4:-1 0:6:1000007 0:8:8");
    }

    private static void echoesOnOneLoop() {
        Group x = group(3, 0);
        x.handler(1, 0, 0, -1);
        Check.same("now, before it is passed on", fired(x, 7), "0:1:-1 0:6:7 0:6:2000007 0:8:7 0:6:1000007 0:8:7");
    }

    private static void runsItsTask() {
        Group x = group(4, 0);
        x.order(0, 0, 60, 0);
        Check.same("1 is not logged", fired(x, 7), "0:1:-1 0:6:7 0:0:60 0:6:1000007 0:8:7");
        x.order(0, 9, 0, 0);
        x.order(0, 0, 61, 0);
        Check.same("its throw ends it alone", fired(x, 7), "0:1:-1 0:6:7 0:0:60 0:2:0 0:6:1000007 0:8:7");
    }

    private static void throwsOnThrees() {
        Group x = group(5, 0);
        Check.same("4", fired(x, 4), "0:1:-1 0:6:4 0:6:1000004 0:8:4");
        for (int message : new int[] {3, 0, -3, -6, 2147483646}) {
            Check.same("to the end: " + message, fired(x, message), "0:1:-1 0:6:" + message + " 0:2:-1");
        }
        x.handler(0, 6, 0, -1);
        Check.same("swallowed", fired(x, 3), "0:1:-1 0:6:3");
        x.channels(0, 0);
        x.handler(3, 5, 0, -1);
        x.fire(3, 6);
        x.step(0);
        Check.same("the end of channel 3", Check.trace(x, x.traced() - 1), "0:2:-4");
    }

    private static void skipsWhatIsNotTheirs() {
        Group x = group(6, 5, 4, 3, 2, 6);
        x.order(0, 0, 60, 0);
        Check.same("one before it catches nothing, those between get nothing", fired(x, 9), "0:1:-1 0:6:1000009");
        x.handler(0, 0, 0, 5);
        Check.same("to the end", fired(x, 9), "0:1:-1 0:6:1000009 0:2:-1");
        Check.same("kind 6 has nothing to do with messages", fired(x, 1),
            "0:1:-1 0:6:1000001 0:6:2000001 0:0:60 0:6:3000001 0:8:1 0:6:4000001");
    }

    private static void fireOrders() {
        Group x = group(0);
        x.order(0, 10, 0, 8);
        x.order(0, 0, 1, 0);
        x.execute(0, 0);
        x.execute(0, 1);
        x.step(0);
        Check.traceIs("now by the channel's loop", x, 2, "0:1:0 0:6:8 0:8:8 0:0:1");
        x.step(1);
        x.step(0);
        Check.traceIs("executed by another", x, 6, "1:1:0 1:0:1 0:1:-1 0:6:8 0:8:8");
    }

    private static void writeOrders() {
        Group x = new Group(3);
        x.channels(0, 1);
        x.handler(0, 0, 0, -1);
        x.handler(1, 0, 0, -1);
        Check.task(x, 11, 0, 8, 0, 1, 0);
        x.execute(0, 1);
        x.step(1);
        Check.traceIs("now by the peer's loop", x, "1:7:2 1:1:0 1:6:1000008 1:8:8 1:0:1");
        x.execute(0, 2);
        x.step(2);
        x.step(1);
        Check.traceIs("executed by another", x, 5, "2:7:2 2:1:0 2:0:1 1:1:-1 1:6:1000008 1:8:8");
    }

    private static void fourWithinOneAnother() {
        Group x = group(3);
        x.handler(1, 3, 0, -1);
        Check.same("the message of the queue and three within it", fired(x, 7),
            "0:1:-1 0:6:7 0:6:1000007 0:6:7 0:6:1000007 0:8:7 0:8:7 0:8:7 0:8:7");
        Check.same("the fifth is executed", x.loop(0, 1), 1);
        x.step(0);
        Group y = group(4);
        y.order(0, 10, 0, 2);
        y.execute(0, 0);
        y.step(0);
        Check.traceIs("four within a task", y, "0:7:2 0:1:0 0:6:2 0:6:2 0:6:2 0:6:2 0:8:2 0:8:2 0:8:2 0:8:2");
        Check.same("the fifth is executed", y.loop(0, 1), 1);
    }

    private static void nestingIsRejected() {
        Group x = group(3);
        x.handler(1, 3, 0, -1);
        x.fire(0, 7);
        for (int k = 0; k < 23; k++) {
            x.execute(0, 0);
        }
        x.order(0, 10, 0, 7);
        x.step(0);
        Check.same("one more has room", x.loop(0, 1), 24);
        x.execute(0, 1);
        int from = x.traced();
        x.step(1);
        Check.traceIs("another loop's is rejected", x, from, "1:1:0 1:4:-1");
    }
}
