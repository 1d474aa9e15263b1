import java.util.ArrayDeque;
import java.util.ArrayList;
import java.util.Comparator;
import java.util.Deque;
import java.util.List;

/**
 * The document told a second time, with the library's collections and with exceptions for what is thrown,
 * so that ModelTest can compare long runs. It is kept apart from the class: it shares no line of it.
 */
final class Model {
    private static final class Thrown extends RuntimeException {
        private static final long serialVersionUID = 1;
    }

    private static final class Order {
        int kind;
        int a;
        int b;
    }

    private static final class Timer {
        int number;
        int task;
        long deadline;
    }

    private static final class Handler {
        int number;
        int kind;
        int task;
    }

    private static final class Channel {
        int loop;
        Channel peer;
        int number;
        final List<Handler> pipeline = new ArrayList<>();
    }

    private static final class Promise {
        int executor;
        int state;
        int value;
        boolean pinned;
        List<Integer> listeners = new ArrayList<>();
    }

    /** What waits in a queue: a task, a listener's task, or a message at a channel. */
    private static final class Thing {
        int task;
        boolean listener;
        Channel channel;
        int message;
    }

    private static final class Loop {
        int state = 1;
        final Deque<Thing> queue = new ArrayDeque<>();
        final List<Timer> timers = new ArrayList<>();
        int batch;
        Promise awaited;
        int awaitedNumber;
        int task;
        int next;
        long quiet;
        long timeout;
        long start;
        long last;
    }

    private final List<Loop> loops = new ArrayList<>();
    private final List<List<Order>> tasks = new ArrayList<>();
    private final List<Promise> promises = new ArrayList<>();
    private final List<Channel> channels = new ArrayList<>();
    final List<int[]> trace = new ArrayList<>();
    private long clock;
    private int chosen;
    private int timers;
    private int handlers;
    private int left;
    private int notifications;
    private int messages;

    Model(int n) {
        int count = n < 1 || n > 8 ? 1 : n;
        while (loops.size() < count) {
            loops.add(new Loop());
        }
    }

    private static void need(boolean holds) {
        if (!holds) {
            throw new IllegalArgumentException();
        }
    }

    private static void allow(boolean holds) {
        if (!holds) {
            throw new IllegalStateException();
        }
    }

    private static <T> boolean in(List<T> list, int k) {
        return 0 <= k && k < list.size();
    }

    private void log(int thread, int kind, int value) {
        trace.add(new int[] {thread, kind, value});
    }

    int task() {
        allow(tasks.size() < 24);
        tasks.add(new ArrayList<>());
        return tasks.size() - 1;
    }

    int order(int task, int kind, int a, int b) {
        need(in(tasks, task) && 0 <= kind && kind <= 13);
        allow(tasks.get(task).size() < 8);
        Order order = new Order();
        order.kind = kind;
        order.a = a;
        order.b = b;
        tasks.get(task).add(order);
        return tasks.get(task).size();
    }

    int promise(int loop) {
        need(in(loops, loop));
        allow(promises.size() < 32);
        Promise promise = new Promise();
        promise.executor = loop;
        promises.add(promise);
        return promises.size() - 1;
    }

    int channels(int first, int second) {
        need(in(loops, first) && in(loops, second));
        allow(channels.size() < 16);
        Channel one = new Channel();
        Channel two = new Channel();
        one.loop = first;
        two.loop = second;
        one.peer = two;
        two.peer = one;
        one.number = channels.size();
        two.number = one.number + 1;
        channels.add(one);
        channels.add(two);
        return one.number;
    }

    int handler(int channel, int kind, int task, int place) {
        need(in(channels, channel));
        List<Handler> pipeline = channels.get(channel).pipeline;
        if (place != -1) {
            need(in(pipeline, place));
            return pipeline.remove(place).number;
        }
        need(0 <= kind && kind <= 6 && (kind != 4 || in(tasks, task)));
        allow(pipeline.size() < 6);
        Handler handler = new Handler();
        handler.number = handlers++;
        handler.kind = kind;
        handler.task = task;
        pipeline.add(handler);
        return handler.number;
    }

    long advance(int by) {
        need(0 <= by && by <= 1000000);
        return clock += by;
    }

    int execute(int task, int loop) {
        need(in(tasks, task) && (loop == -2 || in(loops, loop)));
        int target = loop == -2 ? choose() : loop;
        allow(put(-1, target, taskThing(task, false)));
        return target;
    }

    int timer(int task, int delay, int loop) {
        need(in(tasks, task) && delay >= 0 && in(loops, loop));
        int number = makeTimer(-1, loop, task, delay);
        allow(number >= 0);
        return number;
    }

    boolean cancel(int timer) {
        for (Loop loop : loops) {
            if (loop.timers.removeIf(one -> one.number == timer)) {
                return true;
            }
        }
        return false;
    }

    boolean complete(int promise, int how, int value) {
        need(in(promises, promise) && 1 <= how && how <= 4);
        return how == 4 ? pin(promise) : close(-1, promise, how, value);
    }

    void listen(int promise, int task) {
        need(in(promises, promise) && in(tasks, task));
        need(addListener(-1, promise, task));
    }

    void fire(int channel, int message) {
        need(in(channels, channel));
        allow(send(-1, channels.get(channel), message));
    }

    void shutdown(int quiet, int timeout) {
        need(0 <= quiet && quiet <= timeout);
        shutAll(quiet, timeout);
    }

    int loop(int loop, int what) {
        need(in(loops, loop) && 0 <= what && what <= 4);
        Loop of = loops.get(loop);
        return new int[] {of.state, of.queue.size(), of.timers.size(), of.awaited == null ? 0 : 1, of.batch}[what];
    }

    int look(int promise, int what) {
        need(in(promises, promise) && 0 <= what && what <= 2);
        Promise of = promises.get(promise);
        return new int[] {of.state, of.value, of.listeners.size()}[what];
    }

    int traced() {
        return trace.size();
    }

    int trace(int k, int what) {
        need(0 <= what && what <= 2);
        if (k < 0 || k >= trace.size() || k < trace.size() - 300) {
            throw new IndexOutOfBoundsException();
        }
        return trace.get(k)[what];
    }

    int step(int number) {
        need(in(loops, number));
        Loop loop = loops.get(number);
        left = 1000;
        if (loop.state == 1 || loop.state == 5) {
            return 0;
        }
        if (loop.state == 3) {
            loop.timers.clear();
        }
        if (loop.awaited != null) {
            if (loop.awaited.state == 0) {
                return 2;
            }
            loop.awaited = null;
            log(number, 10, loop.awaitedNumber);
            doTask(number, loop.task, loop.next);
            return 1;
        }
        if (loop.batch == 0) {
            moveTimers(loop);
            loop.batch = Math.min(16, loop.queue.size());
        }
        if (loop.queue.isEmpty()) {
            return confirm(number) ? 3 : 0;
        }
        loop.batch--;
        if (loop.state == 3) {
            loop.last = clock;
        }
        begin(number, loop.queue.poll());
        return 1;
    }

    private void begin(int number, Thing thing) {
        if (thing.channel != null) {
            log(number, 1, -1);
            pass(number, thing.channel, thing.message);
        } else {
            log(number, thing.listener ? 5 : 1, thing.task);
            doTask(number, thing.task, 0);
        }
    }

    private void moveTimers(Loop loop) {
        List<Timer> due = new ArrayList<>(loop.timers);
        due.removeIf(one -> one.deadline > clock);
        due.sort(Comparator.<Timer>comparingLong(one -> one.deadline).thenComparingInt(one -> one.number));
        for (Timer timer : due) {
            if (loop.queue.size() < 24) {
                loop.timers.remove(timer);
                loop.queue.add(taskThing(timer.task, false));
            }
        }
    }

    private boolean confirm(int number) {
        Loop loop = loops.get(number);
        boolean over = loop.quiet == 0 || clock - loop.start > loop.timeout || clock - loop.last > loop.quiet;
        if (loop.state != 3 || !over) {
            return false;
        }
        change(number, 4);
        change(number, 5);
        return true;
    }

    private void change(int number, int state) {
        loops.get(number).state = state;
        log(number, 7, state);
    }

    private void start(int number) {
        if (loops.get(number).state == 1) {
            change(number, 2);
        }
    }

    private int choose() {
        int n = loops.size();
        int c = chosen++;
        return Integer.bitCount(n) == 1 ? c & (n - 1) : Math.abs(c % n);
    }

    private static Thing taskThing(int task, boolean listener) {
        Thing thing = new Thing();
        thing.task = task;
        thing.listener = listener;
        return thing;
    }

    private boolean put(int thread, int target, Thing thing) {
        Loop loop = loops.get(target);
        if (loop.state == 4 || loop.state == 5 || loop.queue.size() == 24) {
            log(thread, 4, thing.channel != null ? -1 : thing.task);
            return false;
        }
        start(target);
        loop.queue.add(thing);
        return true;
    }

    private int makeTimer(int thread, int target, int task, int delay) {
        Loop loop = loops.get(target);
        if (loop.state >= 3 || timers == 400 || loop.timers.size() == 24) {
            log(thread, 4, task);
            return -1;
        }
        start(target);
        Timer timer = new Timer();
        timer.number = timers++;
        timer.task = task;
        timer.deadline = clock + delay;
        loop.timers.add(timer);
        log(thread, 9, timer.number);
        return timer.number;
    }

    private void shutAll(int quiet, int timeout) {
        for (int k = 0; k < loops.size(); k++) {
            Loop loop = loops.get(k);
            if (loop.state == 1 || loop.state == 2) {
                change(k, 3);
                loop.quiet = quiet;
                loop.timeout = timeout;
                loop.start = clock;
                loop.last = clock;
            }
        }
    }

    private boolean pin(int promise) {
        Promise of = promises.get(promise);
        if (of.state == 0) {
            of.pinned = true;
            return true;
        }
        return false;
    }

    private boolean close(int thread, int promise, int state, int value) {
        Promise of = promises.get(promise);
        if (of.state != 0 || of.pinned && state == 3) {
            return false;
        }
        of.state = state;
        of.value = state == 3 ? 0 : value;
        List<Integer> listeners = of.listeners;
        of.listeners = new ArrayList<>();
        for (int task : listeners) {
            tell(thread, of, task);
        }
        return true;
    }

    private boolean addListener(int thread, int promise, int task) {
        Promise of = promises.get(promise);
        if (of.state != 0) {
            tell(thread, of, task);
            return true;
        }
        if (of.listeners.size() == 6) {
            return false;
        }
        of.listeners.add(task);
        return true;
    }

    private void tell(int thread, Promise of, int task) {
        if (of.executor == thread && notifications < 4) {
            notifications++;
            log(thread, 5, task);
            doTask(thread, task, 0);
            notifications--;
        } else {
            put(thread, of.executor, taskThing(task, true));
        }
    }

    private boolean send(int thread, Channel channel, int message) {
        if (channel.loop == thread && messages < 4) {
            pass(thread, channel, message);
            return true;
        }
        Thing thing = new Thing();
        thing.channel = channel;
        thing.message = message;
        return put(thread, channel.loop, thing);
    }

    private void pass(int thread, Channel channel, int message) {
        messages++;
        passFrom(thread, channel, 0, message);
        messages--;
    }

    private void passFrom(int thread, Channel channel, int place, int message) {
        if (place == channel.pipeline.size()) {
            log(thread, 8, message);
            return;
        }
        Handler handler = channel.pipeline.get(place);
        if (handler.kind != 6) {
            log(thread, 6, 1000000 * handler.number + message);
        }
        int passed = message;
        if (handler.kind == 1) {
            passed += handler.number;
        } else if (handler.kind == 2 && (message & 1) == 1) {
            return;
        } else if (handler.kind == 3 && left > 0) {
            left--;
            send(thread, channel.peer, message);
        } else if (handler.kind == 4) {
            doTask(thread, handler.task, 0);
        } else if (handler.kind == 5 && message % 3 == 0) {
            throwFrom(thread, channel, place + 1);
            return;
        }
        passFrom(thread, channel, place + 1, passed);
    }

    private void throwFrom(int thread, Channel channel, int place) {
        for (int k = place; k < channel.pipeline.size(); k++) {
            if (channel.pipeline.get(k).kind == 6) {
                return;
            }
        }
        log(thread, 2, -1 - channel.number);
    }

    private void doTask(int thread, int task, int from) {
        try {
            for (int k = from; k < tasks.get(task).size(); k++) {
                doOrder(thread, tasks.get(task).get(k));
                Loop loop = loops.get(thread);
                if (loop.awaited != null) {
                    loop.task = task;
                    loop.next = k + 1;
                    return;
                }
            }
        } catch (Thrown thrown) {
            log(thread, 2, task);
        }
    }

    private static void must(boolean holds) {
        if (!holds) {
            throw new Thrown();
        }
    }

    private void doOrder(int thread, Order order) {
        must(left > 0);
        left--;
        int a = order.a;
        int b = order.b;
        switch (order.kind) {
            case 0 -> log(thread, 0, a);
            case 1 -> {
                must(in(tasks, a) && (b == -1 || b == -2 || in(loops, b)));
                put(thread, b == -1 ? thread : b == -2 ? choose() : b, taskThing(a, false));
            }
            case 2 -> {
                must(in(tasks, a) && b >= 0);
                makeTimer(thread, thread, a, b);
            }
            case 3 -> {
                must(0 <= a && a < timers);
                cancel(a);
            }
            case 4, 5, 6 -> {
                must(in(promises, a));
                close(thread, a, order.kind - 3, b);
            }
            case 7 -> must(in(promises, a) && in(tasks, b) && addListener(thread, a, b));
            case 8 -> {
                must(in(promises, a));
                await(thread, a);
            }
            case 10, 11 -> {
                must(in(channels, a));
                send(thread, order.kind == 10 ? channels.get(a) : channels.get(a).peer, b);
            }
            case 12 -> {
                must(0 <= a && a <= b);
                shutAll(a, b);
            }
            case 13 -> {
                must(in(promises, a));
                pin(a);
            }
            default -> throw new Thrown();
        }
    }

    private void await(int thread, int promise) {
        Promise of = promises.get(promise);
        if (of.state != 0) {
            return;
        }
        if (of.executor == thread || notifications > 0 || messages > 0) {
            log(thread, 3, promise);
            return;
        }
        loops.get(thread).awaited = of;
        loops.get(thread).awaitedNumber = promise;
    }
}
