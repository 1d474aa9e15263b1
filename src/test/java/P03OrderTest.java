/** Promise 3: one more order of a task; at most 8; kinds 0 .. 13; a and b may be any. */
final class P03OrderTest {
    public static void main(String[] args) {
        counts();
        kinds();
        wrong();
        ordersAreDoneInTheirOrder();
        ordersOfOneTaskAreItsOwn();
        laterOrdersCount();
        Check.end();
    }

    private static void counts() {
        Group x = new Group(1);
        x.task();
        x.task();
        for (int k = 1; k <= 8; k++) {
            Check.same("order " + k, x.order(1, 0, k, 0), k);
        }
        Check.illegalState("a 9th order", () -> x.order(1, 0, 9, 0));
        Check.same("another task's first", x.order(0, 0, 0, 0), 1);
    }

    private static void kinds() {
        Group x = new Group(1);
        for (int kind = 0; kind <= 13; kind++) {
            int task = x.task();
            Check.same("kind " + kind, x.order(task, kind, Integer.MIN_VALUE, Integer.MAX_VALUE), 1);
            Check.same("kind " + kind + " again", x.order(task, kind, Integer.MAX_VALUE, -1), 2);
        }
        Check.same("telling orders logs nothing", x.traced(), 0);
        Check.same("and starts nothing", x.loop(0, 0), 1);
    }

    private static void wrong() {
        Group x = new Group(1);
        Check.illegalArgument("no task yet", () -> x.order(0, 0, 0, 0));
        x.task();
        Check.illegalArgument("task 1", () -> x.order(1, 0, 0, 0));
        Check.illegalArgument("task -1", () -> x.order(-1, 0, 0, 0));
        Check.illegalArgument("kind 14", () -> x.order(0, 14, 0, 0));
        Check.illegalArgument("kind -1", () -> x.order(0, -1, 0, 0));
        Check.same("none was added", x.order(0, 0, 0, 0), 1);
        for (int k = 2; k <= 8; k++) {
            x.order(0, 0, 0, 0);
        }
        Check.illegalArgument("kind 14 of a full task", () -> x.order(0, 14, 0, 0));
    }

    private static void ordersAreDoneInTheirOrder() {
        Group x = new Group(1);
        int task = Check.task(x, 0, 5, 0, 0, Integer.MIN_VALUE, 0, 0, -1, 0, 0, 8, 0, 0, 1, 0, 0, 2, 0, 0, 3, 0, 0, 4, 0);
        x.execute(task, 0);
        x.step(0);
        Check.traceIs("eight logs", x,
            "0:7:2 0:1:0 0:0:5 0:0:-2147483648 0:0:-1 0:0:8 0:0:1 0:0:2 0:0:3 0:0:4");
    }

    private static void ordersOfOneTaskAreItsOwn() {
        Group x = new Group(1);
        Check.task(x, 0, 1, 0);
        Check.task(x, 0, 2, 0);
        x.order(0, 0, 3, 0);
        x.execute(0, 0);
        x.execute(1, 0);
        x.step(0);
        x.step(0);
        Check.traceIs("two tasks", x, "0:7:2 0:1:0 0:0:1 0:0:3 0:1:1 0:0:2");
    }

    private static void laterOrdersCount() {
        Group x = new Group(2);
        x.promise(1);
        Check.task(x, 8, 0, 0);
        x.execute(0, 0);
        x.execute(0, 0);
        x.step(0);
        Check.same("blocked", x.loop(0, 3), 1);
        x.order(0, 0, 6, 0);
        x.complete(0, 1, 0);
        x.step(0);
        x.step(0);
        Check.traceIs("an order told while its task waits", x, "0:7:2 0:1:0 0:10:0 0:0:6 0:1:0 0:0:6");
    }
}
