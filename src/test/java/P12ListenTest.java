/** Promise 12: listeners by the host. */
final class P12ListenTest {
    public static void main(String[] args) {
        limits();
        ofOneThatIsDone();
        rejectedIsNotTold();
        Check.end();
    }

    private static void limits() {
        Group x = new Group(1);
        x.promise(0);
        x.promise(0);
        x.task();
        Check.illegalArgument("promise 2", () -> x.listen(2, 0));
        Check.illegalArgument("promise -1", () -> x.listen(-1, 0));
        Check.illegalArgument("task 1", () -> x.listen(0, 1));
        Check.illegalArgument("task -1", () -> x.listen(0, -1));
        for (int k = 1; k <= 6; k++) {
            x.listen(0, 0);
            Check.same("waiting", x.look(0, 2), k);
        }
        Check.illegalArgument("a 7th", () -> x.listen(0, 0));
        Check.same("six wait", x.look(0, 2), 6);
        x.listen(1, 0);
        Check.same("waiting starts nothing", x.loop(0, 0), 1);
        x.complete(0, 1, 0);
        x.listen(0, 0);
        Check.same("one that is done takes more", x.loop(0, 1), 7);
        Check.same("but none waits there", x.look(0, 2), 0);
        Check.illegalArgument("task 1 of one that is done", () -> x.listen(0, 1));
    }

    private static void ofOneThatIsDone() {
        Group x = new Group(2);
        x.promise(1);
        Check.task(x, 0, 3, 0);
        x.complete(0, 3, 0);
        x.listen(0, 0);
        Check.traceIs("executed at once", x, "1:7:2");
        x.step(1);
        Check.traceIs("5 and not 1", x, "1:7:2 1:5:0 1:0:3");
    }

    private static void rejectedIsNotTold() {
        Group x = new Group(1);
        x.promise(0);
        x.task();
        x.complete(0, 1, 0);
        x.shutdown(0, 0);
        x.step(0);
        int from = x.traced();
        x.listen(0, 0);
        Check.traceIs("logged alone", x, from, "-1:4:0");
    }
}
