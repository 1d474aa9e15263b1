/** Promise 11: completing and pinning by the host. */
final class P11CompleteTest {
    public static void main(String[] args) {
        states();
        pinned();
        wrong();
        listenersAreExecutedInOrder();
        rejectedListenersAreNotTold();
        Check.end();
    }

    private static void states() {
        for (int how = 1; how <= 3; how++) {
            Group x = new Group(1);
            x.promise(0);
            Check.same("complete " + how, x.complete(0, how, -7), true);
            Check.same("state " + how, x.look(0, 0), how);
            Check.same("value of " + how, x.look(0, 1), how == 3 ? 0 : -7);
            for (int again = 1; again <= 4; again++) {
                Check.same("then " + again, x.complete(0, again, 5), false);
            }
            Check.same("state stays", x.look(0, 0), how);
            Check.same("value stays", x.look(0, 1), how == 3 ? 0 : -7);
            Check.same("nothing logged", x.traced(), 0);
        }
    }

    private static void pinned() {
        for (int how = 1; how <= 2; how++) {
            Group x = new Group(1);
            x.promise(0);
            x.promise(0);
            Check.same("pin", x.complete(0, 4, 9), true);
            Check.same("pin again", x.complete(0, 4, 9), true);
            Check.same("pending", x.look(0, 0), 0);
            Check.same("no value", x.look(0, 1), 0);
            Check.same("cancel", x.complete(0, 3, 1), false);
            Check.same("still pending", x.look(0, 0), 0);
            Check.same("the other can be cancelled", x.complete(1, 3, 1), true);
            Check.same("complete " + how, x.complete(0, how, 4), true);
            Check.same("state", x.look(0, 0), how);
        }
    }

    private static void wrong() {
        Group x = new Group(1);
        x.promise(0);
        Check.illegalArgument("promise 1", () -> x.complete(1, 1, 0));
        Check.illegalArgument("promise -1", () -> x.complete(-1, 1, 0));
        Check.illegalArgument("how 0", () -> x.complete(0, 0, 0));
        Check.illegalArgument("how 5", () -> x.complete(0, 5, 0));
        Check.illegalArgument("how -1", () -> x.complete(0, -1, 0));
        x.complete(0, 1, 0);
        Check.illegalArgument("how 5 of one that is done", () -> x.complete(0, 5, 0));
    }

    private static void listenersAreExecutedInOrder() {
        Group x = new Group(2);
        x.promise(1);
        for (int k = 0; k < 3; k++) {
            Check.task(x, 0, 20 + k, 0);
        }
        x.listen(0, 2);
        x.listen(0, 0);
        x.listen(0, 1);
        x.listen(0, 0);
        x.complete(0, 2, 6);
        Check.same("all are in the queue", x.loop(1, 1), 4);
        Check.same("none waits", x.look(0, 2), 0);
        for (int k = 0; k < 5; k++) {
            x.step(1);
        }
        Check.traceIs("in the order in which they were added", x,
            "1:7:2 1:5:2 1:0:22 1:5:0 1:0:20 1:5:1 1:0:21 1:5:0 1:0:20");
    }

    private static void rejectedListenersAreNotTold() {
        Group x = new Group(1);
        x.promise(0);
        x.task();
        x.task();
        for (int k = 0; k < 23; k++) {
            x.execute(0, 0);
        }
        x.listen(0, 0);
        x.listen(0, 1);
        int from = x.traced();
        Check.same("complete", x.complete(0, 1, 0), true);
        Check.traceIs("the second one is lost", x, from, "-1:4:1");
        Check.same("queue", x.loop(0, 1), 24);
        Check.same("none waits", x.look(0, 2), 0);
    }
}
