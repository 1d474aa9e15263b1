/** Promise 5: two more channels, each the other one's peer; at most 16. */
final class P05ChannelsTest {
    public static void main(String[] args) {
        numbers();
        loopsAndPeers();
        Check.end();
    }

    private static void numbers() {
        Group x = new Group(2);
        Check.illegalArgument("first loop 2", () -> x.channels(2, 0));
        Check.illegalArgument("second loop 2", () -> x.channels(0, 2));
        Check.illegalArgument("first loop -1", () -> x.channels(-1, 0));
        Check.illegalArgument("second loop -2", () -> x.channels(0, -2));
        for (int k = 0; k < 8; k++) {
            int pair = k;
            Check.illegalArgument("channel before it is there", () -> x.fire(2 * pair, 0));
            Check.same("pair " + k, x.channels(k % 2, 1 - k % 2), 2 * k);
        }
        Check.illegalState("a 9th pair", () -> x.channels(0, 0));
        Check.illegalArgument("a 9th pair with no such loop", () -> x.channels(0, 2));
        Check.illegalArgument("channel 16", () -> x.fire(16, 0));
        Check.same("nothing logged", x.traced(), 0);
    }

    private static void loopsAndPeers() {
        Group x = new Group(4);
        x.channels(0, 1);
        x.channels(2, 3);
        for (int channel = 0; channel < 4; channel++) {
            x.fire(channel, channel);
            Check.same("the channel's loop", x.loop(channel, 1), 1);
            x.step(channel);
        }
        int[] peers = {1, 0, 3, 2};
        for (int channel = 0; channel < 4; channel++) {
            int write = Check.task(x, 11, channel, 50 + channel);
            x.execute(write, channel);
            x.step(channel);
            int from = x.traced();
            x.step(peers[channel]);
            Check.traceIs("write to the peer of " + channel, x, from,
                peers[channel] + ":1:-1 " + peers[channel] + ":8:" + (50 + channel));
        }
    }
}
