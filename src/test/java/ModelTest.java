import java.util.Random;
import java.util.function.LongSupplier;

/** Long runs of calls, the same by a seed every time, on the class and on the model: each answer and the trace. */
final class ModelTest {
    private static final int RUNS = 4000;
    private static final int CALLS = 512;

    private final Random random;
    private final int n;
    private final LoopGroup group;
    private final Model model;
    private final String name;
    private final int crowd;
    private int compared;

    private ModelTest(int seed) {
        random = new Random(seed);
        name = "run " + seed;
        n = random.nextInt(12) == 0 ? random.nextInt(20) - 5 : 1 + random.nextInt(8);
        crowd = random.nextInt(4);
        group = new LoopGroup(n);
        model = new Model(n);
    }

    public static void main(String[] args) {
        for (int seed = 0; seed < RUNS; seed++) {
            new ModelTest(seed).run();
        }
        Check.end();
    }

    private void run() {
        int prepared = 20 + random.nextInt(120);
        for (int k = 0; k < CALLS; k++) {
            if (k < prepared) {
                prepare();
            } else {
                use();
            }
            compareTraces();
        }
    }

    /** Mostly a number that there is. */
    private int some(int count) {
        return random.nextInt(25) == 0 ? random.nextInt(count + 6) - 3 : random.nextInt(Math.max(1, count));
    }

    private int loops() {
        return crowd == 0 ? 1 : Math.max(1, Math.min(8, n));
    }

    private int message() {
        return random.nextInt(20) == 0 ? random.nextInt() : random.nextInt(12) - 2;
    }

    private void prepare() {
        int what = random.nextInt(20);
        if (what < 2) {
            both("task", group::task, model::task);
        } else if (what < 12) {
            order();
        } else if (what < 14) {
            int loop = some(loops());
            both("promise", () -> group.promise(loop), () -> model.promise(loop));
        } else if (what < 15) {
            int first = some(loops());
            int second = some(loops());
            both("channels", () -> group.channels(first, second), () -> model.channels(first, second));
        } else if (what < 18) {
            handler();
        } else {
            listen();
        }
    }

    private void order() {
        int[] often = {0, 1, 1, 2, 3, 4, 4, 5, 6, 7, 7, 8, 8, 10, 10, 11, 13};
        int task = some(10);
        int kind = random.nextInt(30) == 0 ? random.nextInt(16) - 1 : often[random.nextInt(often.length)];
        int a = kind == 12 ? random.nextInt(8) : kind == 3 ? some(30) : some(10);
        int b = numberB(kind);
        both("order " + kind + " " + a + " " + b, () -> group.order(task, kind, a, b), () -> model.order(task, kind, a, b));
    }

    private int numberB(int kind) {
        switch (kind) {
            case 1: return random.nextInt(3) == 0 ? -1 - random.nextInt(2) : some(loops());
            case 2: return some(20);
            case 10:
            case 11: return message();
            case 12: return random.nextInt(12);
            default: return some(10);
        }
    }

    private void handler() {
        int channel = some(6);
        int kind = some(7);
        int task = some(10);
        int place = random.nextInt(12) == 0 ? some(6) : -1;
        both("handler", () -> group.handler(channel, kind, task, place), () -> model.handler(channel, kind, task, place));
    }

    private void listen() {
        int promise = some(12);
        int task = some(10);
        both("listen", () -> {
            group.listen(promise, task);
            return 0;
        }, () -> {
            model.listen(promise, task);
            return 0;
        });
    }

    private void use() {
        int what = random.nextInt(100);
        if (what < 45) {
            int loop = some(loops());
            both("step " + loop, () -> group.step(loop), () -> model.step(loop));
        } else if (what < 60 + 5 * crowd) {
            int task = some(10);
            int loop = random.nextInt(5) == 0 ? -2 : some(loops());
            both("execute", () -> group.execute(task, loop), () -> model.execute(task, loop));
        } else if (what < 82) {
            wake();
        } else if (what < 92) {
            ask();
        } else {
            prepare();
        }
    }

    private void wake() {
        int what = random.nextInt(60);
        int a = some(12);
        if (what < 15) {
            int message = message();
            both("fire", () -> {
                group.fire(a, message);
                return 0;
            }, () -> {
                model.fire(a, message);
                return 0;
            });
        } else if (what < 30) {
            int delay = some(20);
            int loop = some(loops());
            both("timer", () -> group.timer(a, delay, loop), () -> model.timer(a, delay, loop));
        } else if (what < 40) {
            int by = random.nextInt(30) == 0 ? random.nextInt() : random.nextInt(10);
            both("advance", () -> group.advance(by), () -> model.advance(by));
        } else if (what < 55) {
            int how = random.nextInt(20) == 0 ? random.nextInt(8) - 2 : 1 + random.nextInt(4);
            int value = random.nextInt();
            both("complete", () -> group.complete(a, how, value) ? 1 : 0, () -> model.complete(a, how, value) ? 1 : 0);
        } else if (what < 59) {
            int timer = some(60);
            both("cancel", () -> group.cancel(timer) ? 1 : 0, () -> model.cancel(timer) ? 1 : 0);
        } else if (random.nextInt(3) == 0) {
            shutdown();
        }
    }

    private void shutdown() {
        int quiet = some(20);
        int timeout = quiet + some(20);
        both("shutdown", () -> {
            group.shutdown(quiet, timeout);
            return 0;
        }, () -> {
            model.shutdown(quiet, timeout);
            return 0;
        });
    }

    private void ask() {
        int a = some(8);
        int what = some(5);
        both("loop", () -> group.loop(a, what), () -> model.loop(a, what));
        both("look", () -> group.look(a, what), () -> model.look(a, what));
        int k = random.nextInt(model.traced() + 4) - 2;
        both("trace", () -> group.trace(k, what), () -> model.trace(k, what));
    }

    private static String answer(LongSupplier call) {
        try {
            return Long.toString(call.getAsLong());
        } catch (RuntimeException e) {
            return e.getClass().getSimpleName();
        }
    }

    private void both(String what, LongSupplier ours, LongSupplier theirs) {
        Check.same(name + ": " + what, answer(ours), answer(theirs));
    }

    private void compareTraces() {
        Check.same(name + ": traced", group.traced(), model.traced());
        for (int k = Math.max(compared, model.traced() - 300); k < Math.min(model.traced(), group.traced()); k++) {
            for (int what = 0; what < 3; what++) {
                Check.same(name + ": trace(" + k + ", " + what + ")", group.trace(k, what), model.trace(k, what));
            }
        }
        compared = model.traced();
    }
}
