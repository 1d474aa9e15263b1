/** Promise 19: the entries of the trace, of which the latest 300 are kept. */
final class P19TraceTest {
    public static void main(String[] args) {
        small();
        latest300();
        Check.end();
    }

    private static void small() {
        Group x = new Group(2);
        Check.outOfBounds("none yet", () -> x.trace(0, 0));
        int task = Check.task(x, 0, -8, 0);
        x.execute(task, 1);
        x.step(1);
        int[][] due = {{1, 7, 2}, {1, 1, 0}, {1, 0, -8}};
        for (int k = 0; k < 3; k++) {
            for (int what = 0; what < 3; what++) {
                Check.same("trace(" + k + ", " + what + ")", x.trace(k, what), due[k][what]);
            }
        }
        Check.outOfBounds("entry 3", () -> x.trace(3, 0));
        Check.outOfBounds("entry -1", () -> x.trace(-1, 0));
        Check.outOfBounds("least int", () -> x.trace(Integer.MIN_VALUE, 0));
        Check.outOfBounds("most int", () -> x.trace(Integer.MAX_VALUE, 2));
        Check.illegalArgument("what 3", () -> x.trace(0, 3));
        Check.illegalArgument("what -1", () -> x.trace(0, -1));
        Check.illegalArgument("what 3 of no entry", () -> x.trace(3, 3));
    }

    private static void latest300() {
        Group x = new Group(1);
        x.task();
        for (int k = 0; k < 24; k++) {
            x.execute(0, 0);
        }
        for (int value = 1; value < 300; value++) {
            reject(x);
        }
        Check.same("300", x.traced(), 300);
        Check.same("the first is kept", x.trace(0, 1), 7);
        reject(x);
        Check.outOfBounds("the first is gone", () -> x.trace(0, 1));
        Check.same("the second is the oldest", x.trace(1, 1), 4);
        x.step(0);
        Check.same("the latest", x.trace(301, 1), 1);
        Check.same("the one before it", x.trace(300, 1), 4);
        Check.outOfBounds("two are gone", () -> x.trace(1, 0));
        Check.same("the oldest", x.trace(2, 1), 4);
        Check.outOfBounds("not yet there", () -> x.trace(302, 0));
    }

    private static void reject(Group x) {
        Check.illegalState("rejected", () -> x.execute(0, 0));
    }
}
