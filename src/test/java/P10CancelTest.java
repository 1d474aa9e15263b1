/** Promise 10: whether a timer was there, and went. */
final class P10CancelTest {
    public static void main(String[] args) {
        Group x = new Group(3);
        x.task();
        x.timer(0, 5, 0);
        x.timer(0, 5, 2);
        x.timer(0, 5, 2);
        for (int none : new int[] {-1, 3, 400, Integer.MIN_VALUE, Integer.MAX_VALUE}) {
            Check.same("cancel(" + none + ")", x.cancel(none), false);
        }
        Check.same("one that waits", x.cancel(1), true);
        Check.same("timers", x.loop(2, 2), 1);
        Check.same("once", x.cancel(1), false);
        x.advance(5);
        Check.same("the other runs", x.step(2), 1);
        Check.same("and nothing else", x.step(2), 0);
        Check.same("one that ran", x.cancel(2), false);
        x.execute(0, 0);
        x.step(0);
        Check.same("one that is in the queue waits no more", x.cancel(0), false);
        Check.same("it runs", x.step(0), 1);
        ofALoopThatShutsDown();
        Check.end();
    }

    private static void ofALoopThatShutsDown() {
        Group x = new Group(1);
        x.task();
        x.timer(0, 5, 0);
        x.timer(0, 5, 0);
        x.shutdown(2, 2);
        Check.same("before it steps", x.cancel(0), true);
        x.step(0);
        Check.same("behind its step", x.cancel(1), false);
    }
}
