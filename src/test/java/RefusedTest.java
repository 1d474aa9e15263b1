import java.util.Random;

/**
 * Any arguments in any state: a call throws only what its line of the face names, and one that throws leaves all
 * as it was, but for the entry 4 of one that is rejected (and the chooser's count).
 */
final class RefusedTest {
    private static final int RUNS = 300;
    private static final int CALLS = 500;
    private static final int[] WILD = {
        0, 1, 2, 3, -1, -2, -3, 4, 5, 6, 7, 8, 9, 12, 13, 14, 15, 16, 23, 24, 25, 31, 32, 33, 399, 400, 1000000, 1000001,
        1 << 28, 1 << 29, 1 << 30, -(1 << 29), Integer.MAX_VALUE, Integer.MAX_VALUE - 1, Integer.MIN_VALUE, Integer.MIN_VALUE + 1};

    private final Random random;
    private final Group group;
    private int thrown;

    private RefusedTest(int seed) {
        random = new Random(seed);
        group = new Group(1 + random.nextInt(8));
    }

    public static void main(String[] args) {
        int thrown = 0;
        for (int seed = 0; seed < RUNS; seed++) {
            RefusedTest run = new RefusedTest(seed);
            Check.within("run " + seed);
            for (int k = 0; k < CALLS; k++) {
                run.call();
            }
            thrown += run.thrown;
        }
        Check.within("");
        Check.same("many calls threw: " + thrown, thrown > RUNS * CALLS / 10, true);
        Check.end();
    }

    /** Small numbers mostly, so that runs get somewhere. */
    private int any() {
        return random.nextInt(5) > 0 ? random.nextInt(3) : WILD[random.nextInt(WILD.length)];
    }

    private void call() {
        int which = random.nextInt(30);
        int a = any();
        int b = any();
        int c = any();
        int d = random.nextInt(3) > 0 ? -1 : any();
        String what = "call " + which + " with " + a + ", " + b + ", " + c + ", " + d;
        long all = Inside.all(group);
        long allButTrace = Inside.allButTrace(group);
        try {
            make(which, a, b, c, d);
        } catch (IllegalArgumentException | IndexOutOfBoundsException e) {
            thrown++;
            boolean named = e.getClass() == IllegalArgumentException.class ? namesArgument(which)
                : e.getClass() == IndexOutOfBoundsException.class && which == 17;
            Check.same(what + " threw " + e, named, true);
            Check.same(what + " threw and changed something", Inside.all(group), all);
        } catch (IllegalStateException e) {
            thrown++;
            Check.same(what + " threw " + e, namesState(which), true);
            boolean chosen = which == 6 && b == -2;
            boolean logs = which == 6 || which == 7 || which == 11;
            long now = logs ? Inside.allButTrace(group) : Inside.all(group);
            Check.same(what + " changed something", chosen || now == (logs ? allButTrace : all), true);
        } catch (RuntimeException e) {
            Check.tell(what + " threw " + e);
        }
    }

    private static boolean namesArgument(int which) {
        return which != 0 && which != 8 && which != 16;
    }

    private static boolean namesState(int which) {
        return which <= 4 || which == 6 || which == 7 || which == 11 || which == 18;
    }

    private void make(int which, int a, int b, int c, int d) {
        switch (which) {
            case 0: group.task(); break;
            case 1: group.order(a, random.nextInt(14), b, c); break;
            case 2: group.promise(a); break;
            case 3: group.channels(a, b); break;
            case 4: group.handler(a, b, c, d); break;
            case 5: group.advance(a); break;
            case 6: group.execute(a, b); break;
            case 7: group.timer(a, b, c); break;
            case 8: group.cancel(a); break;
            case 9: group.complete(a, b, c); break;
            case 10: group.listen(a, b); break;
            case 11: group.fire(a, b); break;
            case 12: rarelyShutdown(a, b); break;
            case 13: group.step(a); break;
            case 14: group.loop(a, b); break;
            case 15: group.look(a, b); break;
            case 16: group.traced(); break;
            case 17: group.trace(a, b); break;
            case 18: group.order(a, b, c, d); break;
            default: group.step(random.nextInt(2)); break;
        }
    }

    private void rarelyShutdown(int quiet, int timeout) {
        if (random.nextInt(20) == 0) {
            group.shutdown(quiet, timeout);
        }
    }
}
