/** Promise 4: one more promise with a loop as its executor; at most 32. */
final class P04PromiseTest {
    public static void main(String[] args) {
        Group x = new Group(3);
        Check.illegalArgument("loop 3", () -> x.promise(3));
        Check.illegalArgument("loop -1", () -> x.promise(-1));
        Check.illegalArgument("loop -2", () -> x.promise(-2));
        for (int k = 0; k < 32; k++) {
            Check.same("promise", x.promise(k % 3), k);
            Check.same("it is pending", x.look(k, 0), 0);
            Check.same("its value", x.look(k, 1), 0);
            Check.same("its listeners", x.look(k, 2), 0);
        }
        Check.illegalState("a 33rd", () -> x.promise(0));
        Check.illegalArgument("a 33rd with no such loop", () -> x.promise(3));
        Check.illegalArgument("promise 32", () -> x.look(32, 0));
        Check.same("nothing logged", x.traced(), 0);
        Check.same("no loop started", x.loop(0, 0), 1);
        executorsGetTheListeners(x);
        Check.end();
    }

    private static void executorsGetTheListeners(Group x) {
        int task = x.task();
        for (int k = 0; k < 3; k++) {
            x.listen(k, task);
            x.complete(k, 1, 0);
            Check.same("executor " + k, x.loop(k, 1), 1);
        }
    }
}
