/**
 * A LoopGroup whose calls are counted: the document promises nothing behind the 512th call of an object,
 * so a test that makes more of them is told as wrong.
 */
final class Group {
    private static final int MOST_CALLS = 512;

    final LoopGroup inside;
    private int calls;

    Group(int n) {
        inside = new LoopGroup(n);
    }

    private LoopGroup counted() {
        calls++;
        if (calls == MOST_CALLS + 1) {
            Check.tell("the test makes more than " + MOST_CALLS + " calls of one object");
        }
        return inside;
    }

    int task() {
        return counted().task();
    }

    int order(int task, int kind, int a, int b) {
        return counted().order(task, kind, a, b);
    }

    int promise(int loop) {
        return counted().promise(loop);
    }

    int channels(int first, int second) {
        return counted().channels(first, second);
    }

    int handler(int channel, int kind, int task, int place) {
        return counted().handler(channel, kind, task, place);
    }

    long advance(int by) {
        return counted().advance(by);
    }

    int execute(int task, int loop) {
        return counted().execute(task, loop);
    }

    int timer(int task, int delay, int loop) {
        return counted().timer(task, delay, loop);
    }

    boolean cancel(int timer) {
        return counted().cancel(timer);
    }

    boolean complete(int promise, int how, int value) {
        return counted().complete(promise, how, value);
    }

    void listen(int promise, int task) {
        counted().listen(promise, task);
    }

    void fire(int channel, int message) {
        counted().fire(channel, message);
    }

    void shutdown(int quiet, int timeout) {
        counted().shutdown(quiet, timeout);
    }

    int step(int loop) {
        return counted().step(loop);
    }

    int loop(int loop, int what) {
        return counted().loop(loop, what);
    }

    int look(int promise, int what) {
        return counted().look(promise, what);
    }

    int traced() {
        return counted().traced();
    }

    int trace(int k, int what) {
        return counted().trace(k, what);
    }
}
