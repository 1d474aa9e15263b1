/** Promise 1: n loops (1 .. 8; others: 1), and nothing else yet. */
final class P01NewObjectTest {
    public static void main(String[] args) {
        for (int n = 1; n <= 8; n++) {
            hasLoops(n, n);
        }
        for (int n : new int[] {0, -1, 9, 16, Integer.MIN_VALUE, Integer.MAX_VALUE}) {
            hasLoops(n, 1);
        }
        nothingElse();
        objectsShareNothing();
        Check.end();
    }

    private static void hasLoops(int n, int loops) {
        Group x = new Group(n);
        for (int k = 0; k < loops; k++) {
            Check.same("state of loop " + k + " of " + n, x.loop(k, 0), 1);
            for (int what = 1; what <= 4; what++) {
                Check.same("loop(" + k + ", " + what + ") of " + n, x.loop(k, what), 0);
            }
            Check.same("step of a new loop", x.step(k), 0);
        }
        Check.illegalArgument("loop " + loops + " of " + n, () -> x.loop(loops, 0));
        Check.illegalArgument("loop -1 of " + n, () -> x.loop(-1, 0));
    }

    private static void nothingElse() {
        Group x = new Group(2);
        Check.same("clock", x.advance(0), 0);
        Check.same("traced", x.traced(), 0);
        Check.same("no timer", x.cancel(0), false);
        Check.illegalArgument("no task", () -> x.execute(0, 0));
        Check.illegalArgument("no promise", () -> x.look(0, 0));
        Check.illegalArgument("no channel", () -> x.fire(0, 0));
    }

    private static void objectsShareNothing() {
        Group one = new Group(1);
        Group other = new Group(1);
        one.execute(one.task(), 0);
        one.advance(7);
        Check.same("other's state", other.loop(0, 0), 1);
        Check.same("other's trace", other.traced(), 0);
        Check.same("other's clock", other.advance(0), 0);
        Check.same("other's first task", other.task(), 0);
    }
}
