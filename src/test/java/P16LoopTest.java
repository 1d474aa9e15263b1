/** Promise 16: what can be asked of a loop. */
final class P16LoopTest {
    public static void main(String[] args) {
        Group x = new Group(2);
        Check.illegalArgument("loop 2", () -> x.loop(2, 0));
        Check.illegalArgument("loop -1", () -> x.loop(-1, 0));
        Check.illegalArgument("what 5", () -> x.loop(0, 5));
        Check.illegalArgument("what -1", () -> x.loop(0, -1));
        all(x, "new", 0, 1, 0, 0, 0, 0);
        x.promise(1);
        Check.task(x, 8, 0, 0);
        x.timer(0, 9, 0);
        all(x, "a timer", 0, 2, 0, 1, 0, 0);
        x.execute(0, 0);
        x.execute(0, 0);
        x.execute(0, 0);
        all(x, "and three tasks", 0, 2, 3, 1, 0, 0);
        x.step(0);
        all(x, "one blocks", 0, 2, 2, 1, 1, 2);
        x.channels(0, 1);
        x.fire(0, 1);
        x.shutdown(0, 0);
        all(x, "shutting down, with a message", 0, 3, 3, 1, 1, 2);
        x.complete(0, 1, 0);
        x.step(0);
        all(x, "it went on", 0, 3, 3, 0, 0, 2);
        for (int k = 0; k < 4; k++) {
            x.step(0);
        }
        all(x, "terminated", 0, 5, 0, 0, 0, 0);
        all(x, "the other", 1, 3, 0, 0, 0, 0);
        Check.end();
    }

    private static void all(Group x, String when, int loop, int... due) {
        for (int what = 0; what < due.length; what++) {
            Check.same(when + ": loop(" + loop + ", " + what + ")", x.loop(loop, what), due[what]);
        }
    }
}
