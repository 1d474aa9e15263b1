/** Promise 17: what can be asked of a promise. */
final class P17LookTest {
    public static void main(String[] args) {
        Group x = new Group(1);
        x.promise(0);
        x.promise(0);
        x.task();
        Check.illegalArgument("promise 2", () -> x.look(2, 0));
        Check.illegalArgument("promise -1", () -> x.look(-1, 0));
        Check.illegalArgument("what 3", () -> x.look(0, 3));
        Check.illegalArgument("what -1", () -> x.look(0, -1));
        all(x, "new", 0, 0, 0, 0);
        x.listen(0, 0);
        x.listen(0, 0);
        all(x, "two listeners", 0, 0, 0, 2);
        x.complete(0, 2, -9);
        all(x, "failed", 0, 2, -9, 0);
        all(x, "the other", 1, 0, 0, 0);
        x.complete(1, 3, 5);
        all(x, "cancelled", 1, 3, 0, 0);
        all(x, "the first stays", 0, 2, -9, 0);
        Check.end();
    }

    private static void all(Group x, String when, int promise, int... due) {
        for (int what = 0; what < due.length; what++) {
            Check.same(when + ": look(" + promise + ", " + what + ")", x.look(promise, what), due[what]);
        }
    }
}
