/** The edges that the document's terms name: channels, handlers, messages within one another. */
final class EdgePipelineTest {
    private static final int MOST = Integer.MAX_VALUE;
    private static final int LEAST = Integer.MIN_VALUE;
    private static final String PAIRS = "CHANNELS are in pairs (channels(loop, loop): two more, at most 16), "
        + "each with a loop and a PIPELINE of at most 6 HANDLERS";
    private static final String THROWS = "5 throws on a message that is divisible by 3: it goes to the pipeline's next handler of "
        + "kind 6, which swallows it, or to the end).";
    private static final String END = "A message goes from the first handler to the end: 8 is logged there; "
        + "of what was thrown 2 is logged there with -1 and the channel: - 1 - channel.";
    private static final String FIRED = "FIRE by the channel's loop does it now; otherwise the channel's loop gets it executed, "
        + "as a task without a number (1 is logged with -1 when it begins).";
    private static final String NESTED = "A message that would be fired now within 4 others on the thread is executed as well.";

    public static void main(String[] args) {
        Doc.says(PAIRS, EdgePipelineTest::sixteenOfSix);
        Doc.says("kind 0 PASSES a message on; 1 ADDS its number (as an int) to it;", EdgePipelineTest::addsWrap);
        Doc.says("2 SWALLOWS a message that is odd;", EdgePipelineTest::swallows);
        Doc.says("3 ECHOES: writes the message back (as WRITE of its own channel) and passes it on;", EdgePipelineTest::echoes);
        Doc.says("4 runs its task (1 is not logged; what it throws ends it alone, 2 is logged), passes it on;", EdgePipelineTest::runs);
        Doc.says(THROWS, EdgePipelineTest::divisible);
        Doc.says(THROWS, EdgePipelineTest::nextOfKind6);
        Doc.says("Handlers are skipped when they have nothing to do with what comes: kind 6 with messages, all others with what was thrown.",
            EdgePipelineTest::skipped);
        Doc.says(END, EdgePipelineTest::emptyPipeline);
        Doc.says(END, EdgePipelineTest::thrownToTheEnd);
        Doc.says(FIRED, EdgePipelineTest::nowOrExecuted);
        Doc.says("WRITE: the message is fired at the peer, by what does the WRITE (now, if that is the peer's loop).",
            EdgePipelineTest::written);
        Doc.says(NESTED, EdgePipelineTest::fourWithinATask);
        Doc.says(NESTED, EdgePipelineTest::fourWithTheOneOfTheQueue);
        Doc.says(NESTED, EdgePipelineTest::besideOneAnother);
        Doc.says(NESTED, EdgePipelineTest::executedAndRejected);
        Check.end();
    }

    /** A group with channels 0 and 1 on loop 0, handlers of these kinds (of task 0) at channel 0. */
    private static Group group(int... kinds) {
        Group x = new Group(2);
        x.task();
        x.channels(0, 0);
        for (int kind : kinds) {
            x.handler(0, kind, 0, -1);
        }
        return x;
    }

    /** What a message of the queue logs behind its beginning. */
    private static String fired(Group x, int message) {
        x.fire(0, message);
        int from = x.traced();
        x.step(0);
        return Check.trace(x, from + 1);
    }

    private static void sixteenOfSix() {
        Group x = new Group(1);
        for (int pair = 0; pair < 8; pair++) {
            x.channels(0, 0);
        }
        for (int k = 0; k < 96; k++) {
            x.handler(k % 16, 0, 0, -1);
        }
        for (int channel = 0; channel < 16; channel++) {
            int full = channel;
            Check.isFull("a 7th", x, () -> x.handler(full, 0, 0, -1));
        }
        x.fire(0, 1);
        x.fire(15, 1);
        x.step(0);
        x.step(0);
        Check.traceIs("each has its own six", x, "0:7:2 "
            + "0:1:-1 0:6:1 0:6:16000001 0:6:32000001 0:6:48000001 0:6:64000001 0:6:80000001 0:8:1 "
            + "0:1:-1 0:6:15000001 0:6:31000001 0:6:47000001 0:6:63000001 0:6:79000001 0:6:95000001 0:8:1");
        Check.same("the last of the last", x.handler(15, 0, 0, 5), 95);
        Check.same("the first of the last", x.handler(15, 0, 0, 0), 15);
        Check.same("the first of the first", x.handler(0, 0, 0, 0), 0);
        Check.same("the one behind it is the first now", x.handler(0, 0, 0, 0), 16);
        Check.same("the next channel's stay", x.handler(1, 0, 0, 0), 1);
    }

    private static void addsWrap() {
        Group x = group(0, 1, 1);
        Check.same("1 and 2", fired(x, 10), "0:6:10 0:6:1000010 0:6:2000011 0:8:13");
        Check.same("beyond the most", fired(x, MOST), "0:6:2147483647 0:6:-2146483649 0:6:-2145483648 0:8:-2147483646");
        Check.same("the most", fired(x, MOST - 3), "0:6:2147483644 0:6:-2146483652 0:6:-2145483651 0:8:2147483647");
        Check.same("the least", fired(x, LEAST), "0:6:-2147483648 0:6:-2146483648 0:6:-2145483647 0:8:-2147483645");
        Group zero = group(1);
        Check.same("handler 0 adds 0", fired(zero, 10), "0:6:10 0:8:10");
    }

    private static void swallows() {
        for (int odd : new int[] {1, -1, 3, -3, MOST, LEAST + 1}) {
            Check.same("odd", fired(group(2, 0), odd), "0:6:" + odd);
        }
        for (int even : new int[] {0, 2, -2, MOST - 1, LEAST}) {
            Check.same("even", fired(group(2), even), "0:6:" + even + " 0:8:" + even);
        }
    }

    private static void echoes() {
        Group x = new Group(3);
        x.channels(0, 1);
        x.handler(0, 1, 0, -1);
        x.handler(0, 1, 0, -1);
        x.handler(0, 3, 0, -1);
        x.handler(0, 3, 0, -1);
        Check.same("as it is when it comes", fired(x, MOST), "0:6:2147483647 0:6:-2146483649 0:6:-2145483648 1:7:2 "
            + "0:6:-2144483648 0:8:-2147483648");
        Check.same("twice", x.loop(1, 1), 2);
        x.step(1);
        Check.traceIs("it came", x, x.traced() - 2, "1:1:-1 1:8:-2147483648");
        for (int k = 0; k < 22; k++) {
            x.fire(1, 0);
        }
        Check.same("one has room, one is rejected", fired(x, 4), "0:6:4 0:6:1000004 0:6:2000005 0:6:3000005 0:4:-1 0:8:5");
        x.shutdown(0, 0);
        for (int k = 0; k < 25; k++) {
            x.step(1);
        }
        Check.same("its loop is terminated", fired(x, 4), "0:6:4 0:6:1000004 0:6:2000005 0:4:-1 0:6:3000005 0:4:-1 0:8:5");
    }

    private static void runs() {
        Group x = group(4, 4);
        Check.same("no orders", fired(x, 4), "0:6:4 0:6:1000004 0:8:4");
        x.order(0, 0, 5, 0);
        x.order(0, 1, 9, 0);
        x.order(0, 0, 6, 0);
        Check.same("a throw ends it alone", fired(x, 4), "0:6:4 0:0:5 0:2:0 0:6:1000004 0:0:5 0:2:0 0:8:4");
    }

    private static void divisible() {
        for (int message : new int[] {0, 3, -3, 9, 2147483646, -2147483646}) {
            Check.same("divisible", fired(group(5, 0), message), "0:6:" + message + " 0:2:-1");
        }
        for (int message : new int[] {1, -1, 2, -2, 4, MOST, LEAST}) {
            Check.same("not divisible", fired(group(5), message), "0:6:" + message + " 0:8:" + message);
        }
    }

    private static void nextOfKind6() {
        Check.same("behind it", fired(group(5, 6), 3), "0:6:3");
        Check.same("before it", fired(group(6, 5), 3), "0:6:1000003 0:2:-1");
        Check.same("the first of two", fired(group(5, 6, 0, 6), 3), "0:6:3");
        Check.same("far behind it", fired(group(5, 0, 1, 2, 4, 6), 3), "0:6:3");
        Check.same("the last of six throws", fired(group(0, 0, 0, 0, 6, 5), 3), "0:6:3 0:6:1000003 0:6:2000003 0:6:3000003 0:6:5000003 0:2:-1");
        Check.same("a second that would throw is skipped", fired(group(5, 5), 3), "0:6:3 0:2:-1");
    }

    private static void skipped() {
        Group x = group(6, 6, 6, 6, 6, 6);
        Check.same("messages", fired(x, 3), "0:8:3");
        Group y = group(5, 0, 1, 2, 3, 4);
        y.order(0, 0, 5, 0);
        Check.same("what was thrown", fired(y, 9), "0:6:9 0:2:-1");
        Check.same("nothing was echoed", y.loop(0, 1), 0);
        Check.same("a message", fired(y, 4), "0:6:4 0:6:1000004 0:6:2000004 0:6:3000006 0:6:4000006 0:8:6 0:6:5000006 0:0:5 0:8:6");
    }

    private static void emptyPipeline() {
        Group x = group();
        Check.same("straight to the end", fired(x, 3), "0:8:3");
        Check.same("the least", fired(x, LEAST), "0:8:-2147483648");
        x.handler(0, 0, 0, -1);
        x.fire(0, 5);
        x.handler(0, 0, 0, 0);
        int from = x.traced();
        x.step(0);
        Check.traceIs("the pipeline is looked at when it begins", x, from, "0:1:-1 0:8:5");
    }

    private static void thrownToTheEnd() {
        Group x = new Group(1);
        for (int pair = 0; pair < 8; pair++) {
            x.channels(0, 0);
        }
        for (int channel : new int[] {0, 1, 14, 15}) {
            x.handler(channel, 5, 0, -1);
            x.fire(channel, 0);
            x.step(0);
            Check.traceIs("- 1 - channel", x, x.traced() - 1, "0:2:" + (-1 - channel));
        }
    }

    private static void nowOrExecuted() {
        Group x = new Group(3);
        x.channels(1, 2);
        Check.task(x, 10, 0, 4, 0, 7, 0);
        x.execute(0, 1);
        x.step(1);
        Check.traceIs("by its loop", x, "1:7:2 1:1:0 1:8:4 1:0:7");
        x.execute(0, 2);
        x.step(2);
        x.fire(0, 5);
        x.step(1);
        x.step(1);
        Check.traceIs("by the peer's loop and by the host", x, 4, "2:7:2 2:1:0 2:0:7 1:1:-1 1:8:4 1:1:-1 1:8:5");
    }

    private static void written() {
        Group x = new Group(3);
        x.channels(1, 2);
        Check.task(x, 11, 0, 4, 0, 7, 0);
        Check.task(x, 11, 1, 5, 0, 8, 0);
        x.execute(0, 2);
        x.execute(1, 2);
        x.step(2);
        x.step(2);
        Check.traceIs("of 0 now, of 1 executed", x, "2:7:2 2:1:0 2:8:4 2:0:7 2:1:1 1:7:2 2:0:8");
        x.step(1);
        Check.traceIs("at the peer of 1", x, 7, "1:1:-1 1:8:5");
        x.execute(0, 0);
        x.step(0);
        x.step(2);
        Check.traceIs("by a third loop", x, 9, "0:7:2 0:1:0 0:0:7 2:1:-1 2:8:4");
    }

    private static void fourWithinATask() {
        Group x = group(4);
        x.order(0, 10, 0, 2);
        x.order(0, 0, 7, 0);
        x.execute(0, 0);
        int from = x.traced();
        x.step(0);
        Check.traceIs("the 4th is fired now", x, from,
            "0:1:0 0:6:2 0:6:2 0:6:2 0:6:2 0:0:7 0:8:2 0:0:7 0:8:2 0:0:7 0:8:2 0:0:7 0:8:2 0:0:7");
        Check.same("the 5th is executed", x.loop(0, 1), 1);
        Group y = group(4);
        y.order(0, 11, 1, 2);
        y.execute(0, 0);
        y.step(0);
        Check.same("a WRITE as well", y.loop(0, 1), 1);
    }

    private static void fourWithTheOneOfTheQueue() {
        Group x = group(4);
        x.order(0, 10, 0, 2);
        Check.same("the one of the queue is one of four", fired(x, 2), "0:6:2 0:6:2 0:6:2 0:6:2 0:8:2 0:8:2 0:8:2 0:8:2");
        Check.same("the next is executed", x.loop(0, 1), 1);
        Group y = group(3);
        y.handler(1, 3, 0, -1);
        Check.same("echoes", fired(y, 7), "0:6:7 0:6:1000007 0:6:7 0:6:1000007 0:8:7 0:8:7 0:8:7 0:8:7");
        Check.same("the next echo is executed", y.loop(0, 1), 1);
        int from = y.traced();
        y.step(0);
        Check.traceIs("at channel 0", y, from, "0:1:-1 0:6:7 0:6:1000007 0:6:7 0:6:1000007 0:8:7 0:8:7 0:8:7 0:8:7");
    }

    private static void besideOneAnother() {
        Group x = group(0);
        for (int k = 0; k < 8; k++) {
            x.order(0, 10, 0, k);
        }
        x.execute(0, 0);
        x.step(0);
        Check.same("eight, one behind the other, are fired now", x.loop(0, 1), 0);
        Group y = group(3, 3, 3, 3, 3, 3);
        fired(y, 1);
        Check.same("six echoes of one message", y.loop(0, 1), 0);
        Group z = group(4, 5);
        z.order(0, 10, 0, 3);
        z.order(0, 9, 0, 0);
        Check.same("throws end what they are within", fired(z, 3),
            "0:6:3 0:6:3 0:6:3 0:6:3 0:2:0 0:6:1000003 0:2:-1 0:2:0 0:6:1000003 0:2:-1 0:2:0 0:6:1000003 0:2:-1 "
            + "0:2:0 0:6:1000003 0:2:-1");
        Check.same("the 5th is executed", z.loop(0, 1), 1);
        z.step(0);
        Check.same("four again, and a 5th", z.loop(0, 1), 1);
    }

    private static void executedAndRejected() {
        Group x = group(4);
        x.order(0, 1, 1, -1);
        x.order(0, 10, 0, 2);
        x.order(0, 0, 7, 0);
        x.task();
        x.fire(0, 2);
        for (int k = 0; k < 23; k++) {
            x.execute(1, 0);
        }
        int from = x.traced();
        x.step(0);
        Check.traceIs("the first order takes the last place; the 5th message is rejected, and the orders go on", x, from,
            "0:1:-1 0:6:2 0:6:2 0:4:1 0:6:2 0:4:1 0:6:2 0:4:1 0:4:-1 0:0:7 0:8:2 0:0:7 0:8:2 0:0:7 0:8:2 0:0:7 0:8:2");
        Check.same("full", x.loop(0, 1), 24);
    }
}
