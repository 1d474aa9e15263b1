/** Promise 18: how many entries the trace has had, those that are kept no more among them. */
final class P18TracedTest {
    public static void main(String[] args) {
        Group x = new Group(1);
        int task = Check.task(x, 0, 1, 0, 0, 2, 0, 0, 3, 0, 0, 4, 0, 0, 5, 0, 0, 6, 0, 0, 7, 0, 0, 8, 0);
        Check.same("none", x.traced(), 0);
        x.execute(task, 0);
        Check.same("the start", x.traced(), 1);
        for (int k = 1; k <= 100; k++) {
            x.step(0);
            Check.same("behind task " + k, x.traced(), 1 + 9 * k);
            x.execute(task, 0);
        }
        Check.same("asking logs nothing", x.traced(), 901);
        Check.end();
    }
}
