/** Promise 7: the clock goes on by 0 .. 1,000,000. */
final class P07AdvanceTest {
    public static void main(String[] args) {
        Group x = new Group(1);
        Check.same("0", x.advance(0), 0);
        Check.same("1", x.advance(1), 1);
        Check.same("most", x.advance(1000000), 1000001);
        Check.illegalArgument("1,000,001", () -> x.advance(1000001));
        Check.illegalArgument("-1", () -> x.advance(-1));
        Check.illegalArgument("least int", () -> x.advance(Integer.MIN_VALUE));
        Check.illegalArgument("most int", () -> x.advance(Integer.MAX_VALUE));
        Check.same("it stood still", x.advance(0), 1000001);
        for (int k = 0; k < 400; k++) {
            x.advance(1000000);
        }
        Check.same("it goes on", x.advance(0), 401000001L);
        Check.same("nothing logged", x.traced(), 0);
        Check.end();
    }
}
