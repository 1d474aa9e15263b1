/** Promise 6: handlers are added at the end or taken away at a place. */
final class P06HandlerTest {
    public static void main(String[] args) {
        numbersAndLimits();
        wrong();
        takingAway();
        takingAwayMovesKindAndTask();
        neighboursStay();
        Check.end();
    }

    private static void numbersAndLimits() {
        Group x = new Group(1);
        x.channels(0, 0);
        x.task();
        for (int kind = 0; kind <= 5; kind++) {
            Check.same("kind " + kind, x.handler(0, kind, 0, -1), kind);
        }
        Check.illegalState("a 7th", () -> x.handler(0, 6, 0, -1));
        Check.same("numbers go on over all channels", x.handler(1, 6, 0, -1), 6);
        Check.same("one goes", x.handler(0, 0, 0, 5), 5);
        Check.same("and the next is a new one", x.handler(0, 0, 0, -1), 7);
        Check.illegalState("a 7th again", () -> x.handler(0, 0, 0, -1));
        Check.same("a refused one has no number", x.handler(1, 0, 0, -1), 8);
    }

    private static void wrong() {
        Group x = new Group(1);
        Check.illegalArgument("no channel yet", () -> x.handler(0, 0, 0, -1));
        x.channels(0, 0);
        Check.illegalArgument("channel 2", () -> x.handler(2, 0, 0, -1));
        Check.illegalArgument("channel -1", () -> x.handler(-1, 0, 0, -1));
        Check.illegalArgument("kind 7", () -> x.handler(0, 7, 0, -1));
        Check.illegalArgument("kind -1", () -> x.handler(0, -1, 0, -1));
        Check.illegalArgument("kind 4 with no task", () -> x.handler(0, 4, 0, -1));
        Check.illegalArgument("place 0 of none", () -> x.handler(0, 0, 0, 0));
        Check.same("other kinds need no task", x.handler(0, 0, -9, -1), 0);
        Check.illegalArgument("place 1 of one", () -> x.handler(0, 0, 0, 1));
        Check.illegalArgument("place -2", () -> x.handler(0, 0, 0, -2));
        x.task();
        Check.illegalArgument("kind 4 with task -1", () -> x.handler(0, 4, -1, -1));
        Check.illegalArgument("kind 4 with task 1", () -> x.handler(0, 4, 1, -1));
        Check.same("kind 4 with a task", x.handler(0, 4, 0, -1), 1);
        for (int k = 2; k < 6; k++) {
            x.handler(0, 0, 0, -1);
        }
        Check.illegalArgument("kind 7 of a full pipeline", () -> x.handler(0, 7, 0, -1));
        Check.illegalArgument("place 6 of a full pipeline", () -> x.handler(0, 0, 0, 6));
        Check.same("kind and task do not matter to take away", x.handler(0, 99, -5, 0), 0);
    }

    private static void takingAway() {
        Group x = new Group(1);
        x.channels(0, 0);
        for (int k = 0; k < 6; k++) {
            x.handler(0, 0, 0, -1);
        }
        Check.same("the third", x.handler(0, 0, 0, 2), 2);
        Check.same("the one that moved up", x.handler(0, 0, 0, 2), 3);
        Check.same("the first", x.handler(0, 0, 0, 0), 0);
        Check.same("the last", x.handler(0, 0, 0, 2), 5);
        x.fire(0, 9);
        x.step(0);
        Check.traceIs("what is left, with their numbers", x, "0:7:2 0:1:-1 0:6:1000009 0:6:4000009 0:8:9");
        x.handler(0, 0, 0, 0);
        x.handler(0, 0, 0, 0);
        Check.illegalArgument("none is left", () -> x.handler(0, 0, 0, 0));
        Check.same("the other channel has its own", x.handler(1, 0, 0, -1), 6);
    }

    private static void takingAwayMovesKindAndTask() {
        Group x = new Group(1);
        x.channels(0, 0);
        x.task();
        Check.task(x, 0, 77, 0);
        x.handler(1, 2, 0, -1);
        x.handler(0, 4, 0, -1);
        x.handler(0, 4, 1, -1);
        x.handler(0, 1, 0, -1);
        x.handler(0, 2, 0, -1);
        x.handler(0, 0, 0, 0);
        x.fire(0, 4);
        x.step(0);
        Check.traceIs("kinds and tasks move", x, "0:7:2 0:1:-1 0:6:2000004 0:0:77 0:6:3000004 0:6:4000007");
    }

    private static void neighboursStay() {
        Group x = new Group(1);
        for (int pair = 0; pair < 8; pair++) {
            x.channels(0, 0);
        }
        for (int k = 0; k < 6 * 16; k++) {
            x.handler(k / 6, 0, 0, -1);
        }
        Check.same("the last of the last channel", x.handler(15, 0, 0, 5), 95);
        Check.same("the first of the last channel", x.handler(15, 0, 0, 0), 90);
        Check.same("one of the last but one", x.handler(14, 0, 0, 3), 87);
        Check.same("the next one's places", x.handler(15, 0, 0, 0), 91);
        for (int number = 92; number <= 94; number++) {
            Check.same("and on", x.handler(15, 0, 0, 0), number);
        }
        Check.same("the one's behind it", x.handler(14, 0, 0, 4), 89);
    }
}
