/** Promise 2: one more task, without orders; at most 24. */
final class P02TaskTest {
    public static void main(String[] args) {
        Group x = new Group(2);
        for (int k = 0; k < 24; k++) {
            int next = k;
            Check.illegalArgument("execute of task " + k + " before it is there", () -> x.execute(next, 0));
            Check.same("task", x.task(), k);
        }
        Check.illegalState("a 25th task", x::task);
        Check.illegalState("a 25th task again", x::task);
        Check.illegalArgument("task 24", () -> x.order(24, 0, 0, 0));
        Check.same("nothing logged", x.traced(), 0);
        x.execute(23, 1);
        Check.same("a task without orders runs", x.step(1), 1);
        Check.traceIs("it begins and does nothing", x, "1:7:2 1:1:23");
        Check.end();
    }
}
