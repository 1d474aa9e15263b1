/** The edges that the sections of promises 1 to 6 name: what is made, how many, and what is refused. */
final class EdgeMakingTest {
    private static final String ORDER_REFUSED =
        "IllegalArgumentException: no such task, or kind 0 .. 13; IllegalStateException: it has 8.";
    private static final String HANDLER_REFUSED =
        "IllegalArgumentException: no such channel, place, kind, or (of kind 4) task; IllegalStateException: there are 6.";

    public static void main(String[] args) {
        Doc.says("n loops (1 .. 8; others: 1).", EdgeMakingTest::loops);
        Doc.says("LOOPS 0 .. n - 1.", EdgeMakingTest::loopNumbers);
        Doc.says("One more task, without orders: its number.", EdgeMakingTest::taskNumbers);
        Doc.says("IllegalStateException: there are 24.", EdgeMakingTest::tasksFull);
        Doc.says("One more order of a task: how many it has.", EdgeMakingTest::orderCounts);
        Doc.says("(a and b may be any.)", EdgeMakingTest::anyNumbers);
        Doc.says(ORDER_REFUSED, EdgeMakingTest::orderRefused);
        Doc.says("One more promise with a loop as its executor: its number.", EdgeMakingTest::promiseNumbers);
        Doc.says("IllegalArgumentException: no such loop; IllegalStateException: there are 32.", EdgeMakingTest::promiseRefused);
        Doc.says("Two more channels, each the other one's peer, on loops: the first one's number.", EdgeMakingTest::channelNumbers);
        Doc.says("IllegalArgumentException: no such loop; IllegalStateException: there are 16.", EdgeMakingTest::channelsRefused);
        Doc.says("place -1 adds, another one takes the handler there away", EdgeMakingTest::handlerPlaces);
        Doc.says("(counted over all that were ever added, from 0 on)", EdgeMakingTest::handlerNumbers);
        Doc.says("(those behind it move up a place, with their numbers)", EdgeMakingTest::handlersMoveUp);
        Doc.says("(kind and task do not matter then)", EdgeMakingTest::kindAndTaskDoNotMatter);
        Doc.says(HANDLER_REFUSED, EdgeMakingTest::handlerRefused);
        Check.end();
    }

    private static void loops() {
        int[] given = {Integer.MIN_VALUE, -8, -1, 0, 1, 2, 7, 8, 9, 16, Integer.MAX_VALUE};
        int[] made = {1, 1, 1, 1, 1, 2, 7, 8, 1, 1, 1};
        for (int k = 0; k < given.length; k++) {
            Group x = new Group(given[k]);
            Check.same("the last loop of " + given[k], x.loop(made[k] - 1, 0), 1);
            int behind = made[k];
            Check.cannotBe("the one behind it", x, () -> x.loop(behind, 0));
        }
    }

    private static void loopNumbers() {
        for (int n = 1; n <= 8; n++) {
            Group x = new Group(n);
            x.task();
            int last = n - 1;
            x.promise(last);
            x.channels(last, last);
            x.execute(0, last);
            x.timer(0, 9, last);
            Check.same("step of the last", x.step(last), 1);
            for (int loop : Check.outside(n)) {
                Check.cannotBe("promise(" + loop + ")", x, () -> x.promise(loop));
                Check.cannotBe("channels(" + loop + ", 0)", x, () -> x.channels(loop, 0));
                Check.cannotBe("channels(0, " + loop + ")", x, () -> x.channels(0, loop));
                Check.cannotBe("execute(0, " + loop + ")", x, () -> x.execute(0, loop));
                Check.cannotBe("timer(0, 0, " + loop + ")", x, () -> x.timer(0, 0, loop));
                Check.cannotBe("step(" + loop + ")", x, () -> x.step(loop));
                Check.cannotBe("loop(" + loop + ", 0)", x, () -> x.loop(loop, 0));
            }
        }
    }

    private static void taskNumbers() {
        Group x = new Group(1);
        for (int k = 0; k < 24; k++) {
            int next = k;
            Check.cannotBe("the next one is not there yet", x, () -> x.order(next, 0, 0, 0));
            Check.same("number", x.task(), k);
            x.execute(k, 0);
            x.step(0);
            Check.traceIs("it begins and does nothing", x, x.traced() - 1, "0:1:" + k);
            Check.same("its first order", x.order(k, 0, 0, 0), 1);
        }
    }

    private static void tasksFull() {
        Group x = new Group(1);
        for (int k = 0; k < 23; k++) {
            x.task();
        }
        Check.same("the 24th", x.task(), 23);
        Check.isFull("the 25th", x, x::task);
        Check.isFull("the 25th again", x, x::task);
        Check.same("the 24th is there", x.order(23, 0, 0, 0), 1);
        Check.cannotBe("a 25th is not", x, () -> x.order(24, 0, 0, 0));
    }

    private static void orderCounts() {
        Group x = new Group(1);
        for (int task = 0; task < 24; task++) {
            x.task();
            for (int k = 1; k <= 8; k++) {
                Check.same("order", x.order(task, 0, 100 * task + k, 0), k);
            }
        }
        x.execute(0, 0);
        x.execute(22, 0);
        x.execute(23, 0);
        int from = x.traced();
        x.step(0);
        x.step(0);
        x.step(0);
        Check.traceIs("each has its own", x, from,
            "0:1:0 0:0:1 0:0:2 0:0:3 0:0:4 0:0:5 0:0:6 0:0:7 0:0:8 "
            + "0:1:22 0:0:2201 0:0:2202 0:0:2203 0:0:2204 0:0:2205 0:0:2206 0:0:2207 0:0:2208 "
            + "0:1:23 0:0:2301 0:0:2302 0:0:2303 0:0:2304 0:0:2305 0:0:2306 0:0:2307 0:0:2308");
    }

    private static void anyNumbers() {
        int[] any = {0, -1, -2, -3, 24, Integer.MAX_VALUE, Integer.MIN_VALUE};
        Group x = new Group(1);
        for (int kind = 0; kind <= 13; kind++) {
            int task = x.task();
            for (int k = 0; k < any.length; k++) {
                Check.same("kind " + kind, x.order(task, kind, any[k], any[any.length - 1 - k]), k + 1);
            }
        }
        Check.same("nothing is done by it", x.traced(), 0);
    }

    private static void orderRefused() {
        Group x = new Group(1);
        Check.cannotBe("no task yet", x, () -> x.order(0, 0, 0, 0));
        x.task();
        x.task();
        for (int task : Check.outside(2)) {
            Check.cannotBe("task " + task, x, () -> x.order(task, 0, 0, 0));
        }
        for (int kind : Check.outside(14)) {
            Check.cannotBe("kind " + kind, x, () -> x.order(0, kind, 0, 0));
        }
        Check.same("kind 0", x.order(0, 0, 0, 0), 1);
        Check.same("kind 13", x.order(0, 13, 0, 0), 2);
        for (int k = 3; k < 8; k++) {
            x.order(0, 0, 0, 0);
        }
        Check.same("the 8th", x.order(0, 0, 0, 0), 8);
        Check.isFull("the 9th", x, () -> x.order(0, 0, 0, 0));
        Check.isFull("the 9th of another kind", x, () -> x.order(0, 13, 0, 0));
        Check.cannotBe("the 9th of none", x, () -> x.order(0, 14, 0, 0));
        Check.same("the next task has room", x.order(1, 0, 0, 0), 1);
    }

    private static void promiseNumbers() {
        Group x = new Group(8);
        for (int k = 0; k < 32; k++) {
            int next = k;
            Check.cannotBe("the next one is not there yet", x, () -> x.look(next, 0));
            Check.same("number", x.promise(7 - k % 8), k);
            Check.same("pending", x.look(k, 0), 0);
        }
        x.task();
        for (int k = 0; k < 32; k++) {
            x.listen(k, 0);
            x.complete(k, 1, 0);
        }
        for (int loop = 0; loop < 8; loop++) {
            Check.same("each executor gets four", x.loop(loop, 1), 4);
        }
    }

    private static void promiseRefused() {
        Group x = new Group(8);
        for (int k = 0; k < 31; k++) {
            x.promise(0);
        }
        for (int loop : Check.outside(8)) {
            Check.cannotBe("loop " + loop, x, () -> x.promise(loop));
        }
        Check.same("the 32nd", x.promise(7), 31);
        Check.isFull("the 33rd", x, () -> x.promise(7));
        Check.isFull("the 33rd again", x, () -> x.promise(0));
        Check.cannotBe("the 33rd with no such loop", x, () -> x.promise(8));
        x.complete(31, 1, 5);
        Check.isFull("one that is done is there still", x, () -> x.promise(0));
    }

    private static void channelNumbers() {
        Group x = new Group(4);
        for (int k = 0; k < 8; k++) {
            int next = 2 * k;
            Check.cannotBe("the next one is not there yet", x, () -> x.fire(next, 0));
            Check.same("number", x.channels(k % 2, 2 + k % 2), 2 * k);
        }
        for (int channel = 0; channel < 16; channel++) {
            x.handler(channel, 3, 0, -1);
            int loop = (channel % 2) * 2 + channel / 2 % 2;
            int peers = (loop + 2) % 4;
            x.fire(channel, 5);
            x.step(loop);
            x.handler(channel, 0, 0, 0);
            int from = x.traced();
            Check.same("the peer's loop has its echo", x.step(peers), 1);
            Check.traceIs("of channel " + channel, x, from, peers + ":1:-1 " + peers + ":8:5");
        }
    }

    private static void channelsRefused() {
        Group x = new Group(2);
        for (int k = 0; k < 7; k++) {
            x.channels(0, 1);
        }
        for (int loop : Check.outside(2)) {
            Check.cannotBe("first " + loop, x, () -> x.channels(loop, 0));
            Check.cannotBe("second " + loop, x, () -> x.channels(0, loop));
            Check.cannotBe("both " + loop, x, () -> x.channels(loop, loop));
        }
        Check.same("the 8th pair", x.channels(1, 1), 14);
        x.fire(15, 1);
        Check.isFull("the 9th pair", x, () -> x.channels(0, 0));
        Check.isFull("the 9th pair again", x, () -> x.channels(1, 0));
        Check.cannotBe("the 9th pair with no such loop", x, () -> x.channels(0, 2));
        Check.cannotBe("channel 16", x, () -> x.fire(16, 0));
    }

    private static void handlerPlaces() {
        Group x = new Group(1);
        x.channels(0, 0);
        Check.same("added", x.handler(0, 0, 0, -1), 0);
        Check.same("taken away", x.handler(0, 0, 0, 0), 0);
        Check.cannotBe("an empty pipeline has no place 0", x, () -> x.handler(0, 0, 0, 0));
        for (int k = 1; k <= 6; k++) {
            x.handler(0, 0, 0, -1);
        }
        Check.same("place 5 of six", x.handler(0, 0, 0, 5), 6);
        Check.cannotBe("place 5 of five", x, () -> x.handler(0, 0, 0, 5));
        Check.same("place 0", x.handler(0, 0, 0, 0), 1);
        Check.same("added at the end", x.handler(0, 0, 0, -1), 7);
        x.fire(0, 1);
        x.step(0);
        Check.traceIs("in their order", x, "0:7:2 0:1:-1 0:6:2000001 0:6:3000001 0:6:4000001 0:6:5000001 0:6:7000001 0:8:1");
    }

    private static void handlerNumbers() {
        Group x = new Group(1);
        x.channels(0, 0);
        Check.same("the first", x.handler(1, 0, 0, -1), 0);
        Check.same("of another channel", x.handler(0, 0, 0, -1), 1);
        for (int number = 2; number < 60; number++) {
            Check.same("the one that goes", x.handler(1, 0, 0, 0), number == 2 ? 0 : number - 1);
            Check.same("the next one", x.handler(1, 0, 0, -1), number);
        }
    }

    private static void handlersMoveUp() {
        for (int place = 0; place < 6; place++) {
            Group x = new Group(1);
            x.channels(0, 0);
            x.handler(1, 5, 0, -1);
            for (int k = 0; k < 6; k++) {
                x.handler(0, 0, 0, -1);
            }
            Check.same("the one that goes", x.handler(0, 0, 0, place), 1 + place);
            for (int k = 0; k < 6; k++) {
                if (k != place) {
                    Check.same("the first that is left", x.handler(0, 0, 0, 0), 1 + k);
                }
            }
            Check.same("the other channel's stays", x.handler(1, 0, 0, 0), 0);
        }
        kindsAndTasksMoveUp();
    }

    private static void kindsAndTasksMoveUp() {
        Group x = new Group(1);
        x.channels(0, 0);
        x.task();
        Check.task(x, 0, 71, 0);
        Check.task(x, 0, 72, 0);
        for (int kind : new int[] {0, 4, 4, 1, 2}) {
            x.handler(0, kind, kind == 4 ? 1 : 0, -1);
        }
        x.handler(0, 4, 2, -1);
        x.handler(1, 5, 0, -1);
        x.handler(0, 0, 0, 2);
        x.handler(0, 0, 0, 0);
        x.fire(0, 5);
        x.fire(1, 3);
        x.step(0);
        x.step(0);
        Check.traceIs("kinds and tasks go with them", x,
            "0:7:2 0:1:-1 0:6:1000005 0:0:71 0:6:3000005 0:6:4000008 0:6:5000008 0:0:72 0:8:8 0:1:-1 0:6:6000003 0:2:-2");
        x.handler(0, 0, 0, 2);
        x.handler(0, 0, 0, 2);
        x.handler(0, 0, 0, 0);
        x.fire(0, 5);
        int from = x.traced();
        x.step(0);
        Check.traceIs("until one is left", x, from, "0:1:-1 0:6:3000005 0:8:8");
    }

    private static void kindAndTaskDoNotMatter() {
        for (int wrong : Check.outside(7)) {
            Group x = new Group(1);
            x.channels(0, 0);
            x.handler(0, 0, 0, -1);
            x.handler(0, 0, 0, -1);
            Check.same("kind " + wrong, x.handler(0, wrong, 0, 0), 0);
            Check.same("task " + wrong, x.handler(0, 4, wrong, 0), 1);
        }
    }

    private static void handlerRefused() {
        Group x = new Group(1);
        Check.cannotBe("no channel yet", x, () -> x.handler(0, 0, 0, -1));
        x.channels(0, 0);
        x.task();
        for (int channel : Check.outside(2)) {
            Check.cannotBe("channel " + channel, x, () -> x.handler(channel, 0, 0, -1));
            Check.cannotBe("channel " + channel + ", to take away", x, () -> x.handler(channel, 0, 0, 0));
        }
        for (int kind : Check.outside(7)) {
            Check.cannotBe("kind " + kind, x, () -> x.handler(0, kind, 0, -1));
        }
        for (int task : Check.outside(1)) {
            Check.cannotBe("kind 4 with task " + task, x, () -> x.handler(0, 4, task, -1));
        }
        for (int kind = 0; kind <= 6; kind++) {
            Check.same("kind " + kind + " with no such task", x.handler(kind % 2, kind, kind == 4 ? 0 : -7, -1), kind);
        }
        x.handler(0, 0, 0, -1);
        Check.same("the 6th", x.handler(0, 0, 0, -1), 8);
        Check.isFull("the 7th", x, () -> x.handler(0, 0, 0, -1));
        Check.isFull("the 7th of kind 4", x, () -> x.handler(0, 4, 0, -1));
        Check.cannotBe("the 7th of kind 7", x, () -> x.handler(0, 7, 0, -1));
        Check.cannotBe("the 7th of kind 4 with no task", x, () -> x.handler(0, 4, 1, -1));
        for (int place : new int[] {6, 7, -2, -6, 1 << 30, Integer.MAX_VALUE, Integer.MIN_VALUE}) {
            Check.cannotBe("place " + place, x, () -> x.handler(0, 0, 0, place));
        }
        Check.cannotBe("place 3 of three", x, () -> x.handler(1, 0, 0, 3));
        Check.same("place 2 of three", x.handler(1, 0, 0, 2), 5);
    }
}
