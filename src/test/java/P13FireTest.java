/** Promise 13: messages fired by the host are executed on the channel's loop. */
final class P13FireTest {
    public static void main(String[] args) {
        wrong();
        executed();
        rejected();
        Check.end();
    }

    private static void wrong() {
        Group x = new Group(1);
        Check.illegalArgument("no channel yet", () -> x.fire(0, 1));
        x.channels(0, 0);
        Check.illegalArgument("channel 2", () -> x.fire(2, 1));
        Check.illegalArgument("channel -1", () -> x.fire(-1, 1));
        Check.same("nothing logged", x.traced(), 0);
    }

    private static void executed() {
        Group x = new Group(2);
        x.channels(0, 1);
        x.fire(1, -5);
        Check.same("started", x.loop(1, 0), 2);
        Check.same("in the queue", x.loop(1, 1), 1);
        Check.same("step", x.step(1), 1);
        Check.traceIs("an empty pipeline", x, "1:7:2 1:1:-1 1:8:-5");
        x.fire(1, 8);
        x.handler(1, 0, 0, -1);
        x.step(1);
        Check.traceIs("the pipeline of its step", x, 3, "1:1:-1 1:6:8 1:8:8");
    }

    private static void rejected() {
        Group x = new Group(1);
        x.channels(0, 0);
        x.task();
        for (int k = 0; k < 12; k++) {
            x.fire(0, k);
            x.execute(0, 0);
        }
        int from = x.traced();
        Check.illegalState("a full queue", () -> x.fire(0, 1));
        Check.traceIs("rejected", x, from, "-1:4:-1");
        for (int k = 0; k < 24; k++) {
            x.step(0);
        }
        x.shutdown(0, 9);
        x.fire(0, 4);
        Check.same("a loop that is shutting down takes it", x.step(0), 1);
        Check.same("terminated", x.step(0), 3);
        from = x.traced();
        Check.illegalState("terminated", () -> x.fire(1, 1));
        Check.traceIs("rejected", x, from, "-1:4:-1");
    }
}
