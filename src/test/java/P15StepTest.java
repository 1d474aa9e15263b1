/** Promise 15: what a step does and answers. */
final class P15StepTest {
    public static void main(String[] args) {
        wrong();
        answers();
        batches();
        blockedAndOn();
        blockedAgain();
        otherLoopsStandStill();
        Check.end();
    }

    private static void wrong() {
        Group x = new Group(2);
        Check.illegalArgument("loop 2", () -> x.step(2));
        Check.illegalArgument("loop -1", () -> x.step(-1));
        Check.illegalArgument("loop -2", () -> x.step(-2));
        Check.illegalArgument("most int", () -> x.step(Integer.MAX_VALUE));
    }

    private static void answers() {
        Group x = new Group(2);
        x.task();
        Check.same("not started", x.step(0), 0);
        Check.same("it stays so", x.loop(0, 0), 1);
        x.execute(0, 0);
        Check.same("a task", x.step(0), 1);
        Check.same("an empty queue", x.step(0), 0);
        Check.same("started", x.loop(0, 0), 2);
        x.shutdown(0, 0);
        Check.same("it ends", x.step(0), 3);
        Check.same("it has ended", x.step(0), 0);
        Check.same("one that never started ends too", x.step(1), 3);
    }

    private static void batches() {
        Group x = new Group(1);
        x.task();
        x.task();
        x.timer(1, 0, 0);
        for (int k = 0; k < 20; k++) {
            x.execute(0, 0);
        }
        Check.same("no batch yet", x.loop(0, 4), 0);
        x.step(0);
        Check.same("16, one began", x.loop(0, 4), 15);
        Check.same("20 and the timer, one began", x.loop(0, 1), 20);
        x.timer(1, 0, 0);
        for (int k = 0; k < 15; k++) {
            x.step(0);
        }
        Check.same("the batch is over", x.loop(0, 4), 0);
        Check.same("the second timer waits", x.loop(0, 2), 1);
        Check.same("queue", x.loop(0, 1), 5);
        x.step(0);
        Check.same("five and the timer, one began", x.loop(0, 4), 5);
        Check.same("no timer waits", x.loop(0, 2), 0);
        x.execute(0, 0);
        Check.same("what comes later is not of the batch", x.loop(0, 4), 5);
        for (int k = 0; k < 6; k++) {
            Check.same("a task", x.step(0), 1);
        }
        Check.same("all ran", x.step(0), 0);
    }

    private static void blockedAndOn() {
        Group x = new Group(2);
        x.promise(1);
        Check.task(x, 0, 1, 0, 8, 0, 0, 0, 2, 0, 9, 0, 0);
        x.task();
        x.execute(0, 0);
        x.execute(1, 0);
        Check.same("it ran up to the await", x.step(0), 1);
        Check.same("blocked", x.loop(0, 3), 1);
        Check.same("its batch", x.loop(0, 4), 1);
        Check.same("its queue", x.loop(0, 1), 1);
        Check.same("blocked still", x.step(0), 2);
        Check.same("and still", x.step(0), 2);
        x.complete(0, 2, 0);
        Check.same("blocked until it steps", x.loop(0, 3), 1);
        Check.same("it goes on", x.step(0), 1);
        Check.same("not blocked", x.loop(0, 3), 0);
        Check.same("the next one", x.step(0), 1);
        Check.traceIs("all", x, "0:7:2 0:1:0 0:0:1 0:10:0 0:0:2 0:2:0 0:1:1");
    }

    private static void blockedAgain() {
        Group x = new Group(2);
        x.promise(1);
        x.promise(1);
        Check.task(x, 8, 0, 0, 8, 1, 0, 8, 0, 0, 0, 3, 0);
        x.execute(0, 0);
        x.step(0);
        x.complete(0, 3, 0);
        Check.same("on to the next await", x.step(0), 1);
        Check.same("blocked", x.loop(0, 3), 1);
        Check.same("still", x.step(0), 2);
        x.complete(1, 1, 0);
        Check.same("to its end", x.step(0), 1);
        Check.traceIs("all", x, "0:7:2 0:1:0 0:10:0 0:10:1 0:0:3");
    }

    private static void otherLoopsStandStill() {
        Group x = new Group(2);
        Check.task(x, 1, 1, 1);
        Check.task(x, 0, 1, 0);
        x.execute(0, 0);
        x.step(0);
        Check.same("it waits in the other's queue", x.loop(1, 1), 1);
        Check.same("the first has nothing", x.step(0), 0);
        Check.same("the other runs it", x.step(1), 1);
        Check.traceIs("all", x, "0:7:2 0:1:0 1:7:2 1:1:1 1:0:1");
    }
}
