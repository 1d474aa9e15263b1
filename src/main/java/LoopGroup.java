/**
 * Event loops whose threads go on only by step(), so that any interleaving can be tried.
 *
 * This class looks at what the host gives and throws; the Scheduler has the loops with their queues
 * and timers; the Runner does what a thread does. A thread is told by its loop's number, or HOST.
 */
public final class LoopGroup {
    private static final int HOST = -1;
    private static final int ITSELF = -1;
    private static final int CHOSEN = -2;
    private static final int NONE = -1;
    private static final int MOST_LOOPS = 8;
    private static final int MOST_ADVANCE = 1000000;

    private final Runner runner;
    private final Scheduler scheduler;
    private final Trace trace;
    private final Tasks tasks;
    private final Promises promises;
    private final Channels channels;

    public LoopGroup(int n) {
        runner = new Runner(n >= 1 && n <= MOST_LOOPS ? n : 1);
        scheduler = runner.scheduler;
        trace = scheduler.trace;
        tasks = runner.tasks;
        promises = runner.promises;
        channels = runner.channels;
    }

    public int task() throws IllegalStateException {
        if (tasks.count >= Tasks.MOST) {
            throw new IllegalStateException("there are 24 tasks");
        }
        return tasks.add();
    }

    public int order(int task, int kind, int a, int b) throws IllegalArgumentException, IllegalStateException {
        needTask(task);
        if (kind < 0 || kind > Tasks.LAST_KIND) {
            throw new IllegalArgumentException("no such kind of order");
        }
        if (tasks.sizes[task] >= Tasks.MOST_ORDERS) {
            throw new IllegalStateException("the task has 8 orders");
        }
        return tasks.addOrder(task, kind, a, b);
    }

    public int promise(int loop) throws IllegalArgumentException, IllegalStateException {
        needLoop(loop);
        if (promises.count >= Promises.MOST) {
            throw new IllegalStateException("there are 32 promises");
        }
        return promises.add(loop);
    }

    public int channels(int first, int second) throws IllegalArgumentException, IllegalStateException {
        needLoop(first);
        needLoop(second);
        if (channels.count >= Channels.MOST) {
            throw new IllegalStateException("there are 16 channels");
        }
        return channels.addPair(first, second);
    }

    public int handler(int channel, int kind, int task, int place)
            throws IllegalArgumentException, IllegalStateException {
        needChannel(channel);
        if (place != NONE) {
            if (place < 0 || place >= channels.sizes[channel]) {
                throw new IllegalArgumentException("no such place");
            }
            return channels.removeHandler(channel, place);
        }
        if (kind < 0 || kind > Channels.LAST_KIND) {
            throw new IllegalArgumentException("no such kind of handler");
        }
        if (kind == Channels.RUNS) {
            needTask(task);
        }
        if (channels.sizes[channel] >= Channels.MOST_HANDLERS) {
            throw new IllegalStateException("the pipeline has 6 handlers");
        }
        return channels.addHandler(channel, kind, task);
    }

    public long advance(int by) throws IllegalArgumentException {
        if (by < 0 || by > MOST_ADVANCE) {
            throw new IllegalArgumentException("not 0 .. 1,000,000");
        }
        scheduler.clock += by;
        return scheduler.clock;
    }

    public int execute(int task, int loop) throws IllegalArgumentException, IllegalStateException {
        needTask(task);
        if (loop != CHOSEN) {
            needLoop(loop);
        }
        int target = loop == CHOSEN ? scheduler.choose() : loop;
        if (!scheduler.enqueue(HOST, target, Queue.TASK, task, 0)) {
            throw new IllegalStateException("rejected");
        }
        return target;
    }

    public int timer(int task, int delay, int loop) throws IllegalArgumentException, IllegalStateException {
        needTask(task);
        needLoop(loop);
        if (delay < 0) {
            throw new IllegalArgumentException("a time below 0");
        }
        int number = scheduler.schedule(HOST, loop, task, delay);
        if (number == NONE) {
            throw new IllegalStateException("rejected");
        }
        return number;
    }

    public boolean cancel(int timer) {
        return scheduler.dropTimer(timer);
    }

    public boolean complete(int promise, int how, int value) throws IllegalArgumentException {
        needPromise(promise);
        if (how == Promises.PIN) {
            return promises.pin(promise);
        }
        if (how < Promises.SUCCEEDED || how > Promises.CANCELLED) {
            throw new IllegalArgumentException("no such how");
        }
        return runner.settle(HOST, promise, how, value);
    }

    public void listen(int promise, int task) throws IllegalArgumentException {
        needPromise(promise);
        needTask(task);
        if (!promises.takesListener(promise)) {
            throw new IllegalArgumentException("6 listeners wait");
        }
        runner.addListener(HOST, promise, task);
    }

    public void fire(int channel, int message) throws IllegalArgumentException, IllegalStateException {
        needChannel(channel);
        if (!runner.send(HOST, channel, message)) {
            throw new IllegalStateException("rejected");
        }
    }

    public void shutdown(int quiet, int timeout) throws IllegalArgumentException {
        if (!scheduler.canShut(quiet, timeout)) {
            throw new IllegalArgumentException("not 0 <= quiet <= timeout");
        }
        scheduler.shutAll(quiet, timeout);
    }

    public int step(int loop) throws IllegalArgumentException {
        needLoop(loop);
        return runner.takeStep(loop);
    }

    public int loop(int loop, int what) throws IllegalArgumentException {
        needLoop(loop);
        Loop of = scheduler.loops[loop];
        switch (what) {
            case 0: return of.state;
            case 1: return of.queue.size;
            case 2: return of.timers.size;
            case 3: return of.awaited != NONE ? 1 : 0;
            case 4: return of.batch;
            default: throw new IllegalArgumentException("no such what");
        }
    }

    public int look(int promise, int what) throws IllegalArgumentException {
        needPromise(promise);
        switch (what) {
            case 0: return promises.states[promise];
            case 1: return promises.values[promise];
            case 2: return promises.waiting[promise];
            default: throw new IllegalArgumentException("no such what");
        }
    }

    public int traced() {
        return trace.count;
    }

    public int trace(int k, int what) throws IllegalArgumentException, IndexOutOfBoundsException {
        if (what < 0 || what >= Trace.WIDTH) {
            throw new IllegalArgumentException("no such what");
        }
        if (!trace.keeps(k)) {
            throw new IndexOutOfBoundsException("no such entry is kept");
        }
        return trace.read(k, what);
    }

    private void needTask(int task) {
        if (!tasks.has(task)) {
            throw new IllegalArgumentException("no such task");
        }
    }

    private void needLoop(int loop) {
        if (!scheduler.has(loop)) {
            throw new IllegalArgumentException("no such loop");
        }
    }

    private void needPromise(int promise) {
        if (!promises.has(promise)) {
            throw new IllegalArgumentException("no such promise");
        }
    }

    private void needChannel(int channel) {
        if (!channels.has(channel)) {
            throw new IllegalArgumentException("no such channel");
        }
    }

    /** What was logged, in a ring, as only the latest entries can be asked for. */
    private static final class Trace {
        static final int LOGGED = 0;
        static final int TASK_BEGINS = 1;
        static final int THREW = 2;
        static final int BLOCKING = 3;
        static final int REJECTED = 4;
        static final int LISTENER_BEGINS = 5;
        static final int HANDLER_GETS = 6;
        static final int STATE = 7;
        static final int UNHANDLED = 8;
        static final int TIMER_MADE = 9;
        static final int AWAIT_OVER = 10;
        static final int WIDTH = 3;
        static final int KEPT = 300;

        final int[] rows = new int[KEPT * WIDTH];
        int count;

        void log(int thread, int kind, int value) {
            int at = (count % KEPT) * WIDTH;
            rows[at] = thread;
            rows[at + 1] = kind;
            rows[at + 2] = value;
            count++;
        }

        boolean keeps(int k) {
            return k >= 0 && k < count && k >= count - KEPT;
        }

        int read(int k, int what) {
            return rows[(k % KEPT) * WIDTH + what];
        }
    }

    /** The tasks' orders; they are read when they are done, so that later order() calls count too. */
    private static final class Tasks {
        static final int LOG = 0;
        static final int EXECUTE = 1;
        static final int TIMER = 2;
        static final int CANCEL_TIMER = 3;
        static final int SUCCEED = 4;
        static final int FAIL = 5;
        static final int CANCEL_PROMISE = 6;
        static final int LISTEN = 7;
        static final int AWAIT = 8;
        static final int FIRE = 10;
        static final int WRITE = 11;
        static final int SHUTDOWN = 12;
        static final int PIN = 13;
        static final int LAST_KIND = 13;
        static final int MOST = 24;
        static final int MOST_ORDERS = 8;

        final int[] sizes = new int[MOST];
        final int[] kinds = new int[MOST * MOST_ORDERS];
        final int[] as = new int[MOST * MOST_ORDERS];
        final int[] bs = new int[MOST * MOST_ORDERS];
        int count;

        boolean has(int task) {
            return task >= 0 && task < count;
        }

        int add() {
            count++;
            return count - 1;
        }

        int addOrder(int task, int kind, int a, int b) {
            int at = task * MOST_ORDERS + sizes[task];
            kinds[at] = kind;
            as[at] = a;
            bs[at] = b;
            sizes[task]++;
            return sizes[task];
        }
    }

    private static final class Promises {
        static final int PENDING = 0;
        static final int SUCCEEDED = 1;
        static final int FAILED = 2;
        static final int CANCELLED = 3;
        static final int PIN = 4;
        static final int MOST = 32;
        static final int MOST_WAITING = 6;

        final int[] executors = new int[MOST];
        final int[] states = new int[MOST];
        final int[] values = new int[MOST];
        final boolean[] pinned = new boolean[MOST];
        final int[] waiting = new int[MOST];
        final int[] listeners = new int[MOST * MOST_WAITING];
        int count;

        boolean has(int promise) {
            return promise >= 0 && promise < count;
        }

        int add(int executor) {
            executors[count] = executor;
            count++;
            return count - 1;
        }

        boolean isPending(int promise) {
            return states[promise] == PENDING;
        }

        boolean pin(int promise) {
            if (!isPending(promise)) {
                return false;
            }
            pinned[promise] = true;
            return true;
        }

        boolean close(int promise, int state, int value) {
            if (!isPending(promise) || (state == CANCELLED && pinned[promise])) {
                return false;
            }
            states[promise] = state;
            values[promise] = state == CANCELLED ? 0 : value;
            return true;
        }

        boolean takesListener(int promise) {
            return !isPending(promise) || waiting[promise] < MOST_WAITING;
        }

        void addWaiting(int promise, int task) {
            listeners[promise * MOST_WAITING + waiting[promise]] = task;
            waiting[promise]++;
        }
    }

    /** The channels with their pipelines; those of a pair stand side by side, the first at an even number. */
    private static final class Channels {
        static final int ADDS = 1;
        static final int SWALLOWS_ODD = 2;
        static final int ECHOES = 3;
        static final int RUNS = 4;
        static final int THROWS = 5;
        static final int CATCHES = 6;
        static final int LAST_KIND = 6;
        static final int MOST = 16;
        static final int MOST_HANDLERS = 6;

        final int[] loops = new int[MOST];
        final int[] sizes = new int[MOST];
        final int[] kinds = new int[MOST * MOST_HANDLERS];
        final int[] tasks = new int[MOST * MOST_HANDLERS];
        final int[] numbers = new int[MOST * MOST_HANDLERS];
        int count;
        int handlersMade;

        boolean has(int channel) {
            return channel >= 0 && channel < count;
        }

        int addPair(int first, int second) {
            loops[count] = first;
            loops[count + 1] = second;
            count += 2;
            return count - 2;
        }

        int peer(int channel) {
            return channel ^ 1;
        }

        int addHandler(int channel, int kind, int task) {
            int at = channel * MOST_HANDLERS + sizes[channel];
            kinds[at] = kind;
            tasks[at] = task;
            numbers[at] = handlersMade;
            sizes[channel]++;
            handlersMade++;
            return numbers[at];
        }

        int removeHandler(int channel, int place) {
            int at = channel * MOST_HANDLERS + place;
            int number = numbers[at];
            int behind = sizes[channel] - place - 1;
            System.arraycopy(kinds, at + 1, kinds, at, behind);
            System.arraycopy(tasks, at + 1, tasks, at, behind);
            System.arraycopy(numbers, at + 1, numbers, at, behind);
            sizes[channel]--;
            return number;
        }
    }

    /** What a loop has still to begin: a task or a listener by its task, a message by its channel. */
    private static final class Queue {
        static final int TASK = 0;
        static final int LISTENER = 1;
        static final int MESSAGE = 2;
        static final int MOST = 24;

        final int[] kinds = new int[MOST];
        final int[] numbers = new int[MOST];
        final int[] messages = new int[MOST];
        int first;
        int size;

        boolean isFull() {
            return size >= MOST;
        }

        void put(int kind, int number, int message) {
            int at = (first + size) % MOST;
            kinds[at] = kind;
            numbers[at] = number;
            messages[at] = message;
            size++;
        }

        void dropFirst() {
            first = (first + 1) % MOST;
            size--;
        }
    }

    /** The timers that wait at a loop, in no order. */
    private static final class Timers {
        static final int MOST = 24;

        final int[] numbers = new int[MOST];
        final int[] tasks = new int[MOST];
        final long[] deadlines = new long[MOST];
        int size;

        void put(int number, int task, long deadline) {
            numbers[size] = number;
            tasks[size] = task;
            deadlines[size] = deadline;
            size++;
        }

        int placeOf(int number) {
            for (int k = 0; k < size; k++) {
                if (numbers[k] == number) {
                    return k;
                }
            }
            return NONE;
        }

        int firstDue(long clock) {
            int best = NONE;
            for (int k = 0; k < size; k++) {
                if (deadlines[k] <= clock && (best == NONE || isBefore(k, best))) {
                    best = k;
                }
            }
            return best;
        }

        boolean isBefore(int k, int other) {
            return deadlines[k] != deadlines[other]
                ? deadlines[k] < deadlines[other]
                : numbers[k] < numbers[other];
        }

        void removeAt(int place) {
            size--;
            numbers[place] = numbers[size];
            tasks[place] = tasks[size];
            deadlines[place] = deadlines[size];
        }
    }

    private static final class Loop {
        static final int NOT_STARTED = 1;
        static final int STARTED = 2;
        static final int SHUTTING_DOWN = 3;
        static final int SHUT_DOWN = 4;
        static final int TERMINATED = 5;

        final Queue queue = new Queue();
        final Timers timers = new Timers();
        int state = NOT_STARTED;
        int batch;
        int awaited = NONE;
        int pausedTask;
        int pausedOrder;
        int quiet;
        int timeout;
        long start;
        long last;

        boolean isQuiet(long clock) {
            return quiet == 0 || clock - start > timeout || clock - last > quiet;
        }
    }

    /** The loops, the clock and the chooser: what waits where, and which state a loop is in. */
    private static final class Scheduler {
        static final int MOST_TIMERS = 400;
        static final int MOST_BATCH = 16;

        final Trace trace = new Trace();
        final Loop[] loops;
        long clock;
        int chosen;
        int timersMade;

        Scheduler(int n) {
            loops = new Loop[n];
            for (int k = 0; k < n; k++) {
                loops[k] = new Loop();
            }
        }

        boolean has(int loop) {
            return loop >= 0 && loop < loops.length;
        }

        int choose() {
            int times = chosen;
            int n = loops.length;
            chosen++;
            return (n & (n - 1)) == 0 ? times & (n - 1) : Math.abs(times % n);
        }

        boolean enqueue(int thread, int target, int kind, int number, int message) {
            Loop loop = loops[target];
            if (loop.state >= Loop.SHUT_DOWN || loop.queue.isFull()) {
                trace.log(thread, Trace.REJECTED, kind == Queue.MESSAGE ? NONE : number);
                return false;
            }
            if (loop.state == Loop.NOT_STARTED) {
                become(target, Loop.STARTED);
            }
            loop.queue.put(kind, number, message);
            return true;
        }

        int schedule(int thread, int target, int task, int delay) {
            Loop loop = loops[target];
            boolean room = timersMade < MOST_TIMERS && loop.timers.size < Timers.MOST;
            if (!room || loop.state >= Loop.SHUTTING_DOWN) {
                trace.log(thread, Trace.REJECTED, task);
                return NONE;
            }
            if (loop.state == Loop.NOT_STARTED) {
                become(target, Loop.STARTED);
            }
            int number = timersMade;
            timersMade++;
            loop.timers.put(number, task, clock + delay);
            trace.log(thread, Trace.TIMER_MADE, number);
            return number;
        }

        boolean dropTimer(int number) {
            for (int k = 0; k < loops.length; k++) {
                int place = loops[k].timers.placeOf(number);
                if (place != NONE) {
                    loops[k].timers.removeAt(place);
                    return true;
                }
            }
            return false;
        }

        void beginBatch(Loop loop) {
            for (int moved = 0; moved < Timers.MOST && !loop.queue.isFull(); moved++) {
                int place = loop.timers.firstDue(clock);
                if (place == NONE) {
                    break;
                }
                loop.queue.put(Queue.TASK, loop.timers.tasks[place], 0);
                loop.timers.removeAt(place);
            }
            loop.batch = Math.min(loop.queue.size, MOST_BATCH);
        }

        boolean canShut(int quiet, int timeout) {
            return quiet >= 0 && timeout >= quiet;
        }

        void shutAll(int quiet, int timeout) {
            for (int k = 0; k < loops.length; k++) {
                Loop loop = loops[k];
                if (loop.state < Loop.SHUTTING_DOWN) {
                    loop.quiet = quiet;
                    loop.timeout = timeout;
                    loop.start = clock;
                    loop.last = clock;
                    become(k, Loop.SHUTTING_DOWN);
                }
            }
        }

        boolean confirm(int number) {
            Loop loop = loops[number];
            if (loop.state != Loop.SHUTTING_DOWN || !loop.isQuiet(clock)) {
                return false;
            }
            become(number, Loop.SHUT_DOWN);
            become(number, Loop.TERMINATED);
            return true;
        }

        void become(int number, int state) {
            loops[number].state = state;
            trace.log(number, Trace.STATE, state);
        }
    }

    /**
     * What threads do. Its methods call one another (a task completes a promise whose listener fires a
     * message ..): MOST_NESTED bounds both kinds of nesting, and what would go deeper is enqueued.
     */
    private static final class Runner {
        static final int MOST_NESTED = 4;
        static final int MOST_WORK = 1000;
        static final int HANDLER_WEIGHT = 1000000;

        static final int NOTHING = 0;
        static final int RAN = 1;
        static final int STILL_BLOCKED = 2;
        static final int ENDED = 3;

        static final int WENT_ON = 0;
        static final int THREW = 1;
        static final int PAUSED = 2;

        static final int PASSED = 0;
        static final int SWALLOWED = 1;
        static final int THROWN = 2;

        final Tasks tasks = new Tasks();
        final Promises promises = new Promises();
        final Channels channels = new Channels();
        final Scheduler scheduler;
        final Trace trace;
        int work;
        int notifying;
        int firing;

        Runner(int n) {
            scheduler = new Scheduler(n);
            trace = scheduler.trace;
        }

        int takeStep(int thread) {
            Loop loop = scheduler.loops[thread];
            if (loop.state == Loop.NOT_STARTED || loop.state == Loop.TERMINATED) {
                return NOTHING;
            }
            if (loop.state == Loop.SHUTTING_DOWN) {
                loop.timers.size = 0;
            }
            work = 0;
            if (loop.awaited != NONE) {
                return resume(thread, loop);
            }
            if (loop.batch == 0) {
                scheduler.beginBatch(loop);
            }
            if (loop.queue.size == 0) {
                return scheduler.confirm(thread) ? ENDED : NOTHING;
            }
            beginFirst(thread, loop);
            return RAN;
        }

        int resume(int thread, Loop loop) {
            int promise = loop.awaited;
            if (promises.isPending(promise)) {
                return STILL_BLOCKED;
            }
            loop.awaited = NONE;
            trace.log(thread, Trace.AWAIT_OVER, promise);
            doOrders(thread, loop.pausedTask, loop.pausedOrder);
            return RAN;
        }

        /** The first leaves the queue before it runs: its own orders find its place free. */
        void beginFirst(int thread, Loop loop) {
            int at = loop.queue.first;
            int kind = loop.queue.kinds[at];
            int number = loop.queue.numbers[at];
            int message = loop.queue.messages[at];
            loop.queue.dropFirst();
            loop.batch--;
            loop.last = scheduler.clock;
            if (kind == Queue.MESSAGE) {
                trace.log(thread, Trace.TASK_BEGINS, NONE);
                goThrough(thread, number, message);
                return;
            }
            trace.log(thread, kind == Queue.TASK ? Trace.TASK_BEGINS : Trace.LISTENER_BEGINS, number);
            doOrders(thread, number, 0);
        }

        void doOrders(int thread, int task, int from) {
            for (int k = from; k < tasks.sizes[task]; k++) {
                int at = task * Tasks.MOST_ORDERS + k;
                int end = doOrder(thread, tasks.kinds[at], tasks.as[at], tasks.bs[at]);
                if (end == THREW) {
                    trace.log(thread, Trace.THREW, task);
                    return;
                }
                if (end == PAUSED) {
                    scheduler.loops[thread].pausedTask = task;
                    scheduler.loops[thread].pausedOrder = k + 1;
                    return;
                }
            }
        }

        int doOrder(int thread, int kind, int a, int b) {
            if (work >= MOST_WORK) {
                return THREW;
            }
            work++;
            if (!canDo(kind, a, b)) {
                return THREW;
            }
            if (kind == Tasks.AWAIT) {
                return await(thread, a);
            }
            carryOut(thread, kind, a, b);
            return WENT_ON;
        }

        /** Whether an order's numbers are such that it can be done; a THROW has none that are. */
        boolean canDo(int kind, int a, int b) {
            switch (kind) {
                case Tasks.LOG:
                    return true;
                case Tasks.EXECUTE:
                    return tasks.has(a) && (b == ITSELF || b == CHOSEN || scheduler.has(b));
                case Tasks.TIMER:
                    return tasks.has(a) && b >= 0;
                case Tasks.CANCEL_TIMER:
                    return a >= 0 && a < scheduler.timersMade;
                case Tasks.SUCCEED:
                case Tasks.FAIL:
                case Tasks.CANCEL_PROMISE:
                case Tasks.AWAIT:
                case Tasks.PIN:
                    return promises.has(a);
                case Tasks.LISTEN:
                    return promises.has(a) && tasks.has(b) && promises.takesListener(a);
                case Tasks.FIRE:
                case Tasks.WRITE:
                    return channels.has(a);
                case Tasks.SHUTDOWN:
                    return scheduler.canShut(a, b);
                default:
                    return false;
            }
        }

        /** Only what began from the queue may pause: what is nested in it could not go on alone later. */
        int await(int thread, int promise) {
            if (!promises.isPending(promise)) {
                return WENT_ON;
            }
            if (notifying > 0 || firing > 0 || promises.executors[promise] == thread) {
                trace.log(thread, Trace.BLOCKING, promise);
                return WENT_ON;
            }
            scheduler.loops[thread].awaited = promise;
            return PAUSED;
        }

        void carryOut(int thread, int kind, int a, int b) {
            switch (kind) {
                case Tasks.LOG:
                    trace.log(thread, Trace.LOGGED, a);
                    break;
                case Tasks.EXECUTE:
                    scheduler.enqueue(thread, targetOf(thread, b), Queue.TASK, a, 0);
                    break;
                case Tasks.TIMER:
                    scheduler.schedule(thread, thread, a, b);
                    break;
                case Tasks.CANCEL_TIMER:
                    scheduler.dropTimer(a);
                    break;
                case Tasks.SUCCEED:
                    settle(thread, a, Promises.SUCCEEDED, b);
                    break;
                case Tasks.FAIL:
                    settle(thread, a, Promises.FAILED, b);
                    break;
                case Tasks.CANCEL_PROMISE:
                    settle(thread, a, Promises.CANCELLED, b);
                    break;
                case Tasks.LISTEN:
                    addListener(thread, a, b);
                    break;
                case Tasks.FIRE:
                    send(thread, a, b);
                    break;
                case Tasks.WRITE:
                    send(thread, channels.peer(a), b);
                    break;
                case Tasks.SHUTDOWN:
                    scheduler.shutAll(a, b);
                    break;
                case Tasks.PIN:
                    promises.pin(a);
                    break;
                default:
                    break;
            }
        }

        int targetOf(int thread, int loop) {
            if (loop == ITSELF) {
                return thread;
            }
            return loop == CHOSEN ? scheduler.choose() : loop;
        }

        boolean settle(int thread, int promise, int state, int value) {
            if (!promises.close(promise, state, value)) {
                return false;
            }
            // A promise that is done takes no listener to wait, so its row stands still while it is read.
            int waiting = promises.waiting[promise];
            promises.waiting[promise] = 0;
            for (int k = 0; k < waiting; k++) {
                tell(thread, promise, promises.listeners[promise * Promises.MOST_WAITING + k]);
            }
            return true;
        }

        void addListener(int thread, int promise, int task) {
            if (promises.isPending(promise)) {
                promises.addWaiting(promise, task);
            } else {
                tell(thread, promise, task);
            }
        }

        /** Notifies one listener of a promise that is done. */
        void tell(int thread, int promise, int task) {
            int executor = promises.executors[promise];
            if (thread != executor || notifying >= MOST_NESTED) {
                scheduler.enqueue(thread, executor, Queue.LISTENER, task, 0);
                return;
            }
            notifying++;
            trace.log(thread, Trace.LISTENER_BEGINS, task);
            doOrders(thread, task, 0);
            notifying--;
        }

        /** Fires a message at a channel; false when it is rejected. */
        boolean send(int thread, int channel, int message) {
            int loop = channels.loops[channel];
            if (thread != loop || firing >= MOST_NESTED) {
                return scheduler.enqueue(thread, loop, Queue.MESSAGE, channel, message);
            }
            goThrough(thread, channel, message);
            return true;
        }

        void goThrough(int thread, int channel, int message) {
            firing++;
            int passing = message;
            int fate = PASSED;
            for (int place = 0; place < channels.sizes[channel] && fate != SWALLOWED; place++) {
                int at = channel * Channels.MOST_HANDLERS + place;
                int kind = channels.kinds[at];
                if (fate == THROWN) {
                    fate = kind == Channels.CATCHES ? SWALLOWED : THROWN;
                } else if (kind != Channels.CATCHES) {
                    fate = handle(thread, channel, at, passing);
                    passing += kind == Channels.ADDS ? channels.numbers[at] : 0;
                }
            }
            firing--;
            if (fate == PASSED) {
                trace.log(thread, Trace.UNHANDLED, passing);
            } else if (fate == THROWN) {
                trace.log(thread, Trace.THREW, -1 - channel);
            }
        }

        int handle(int thread, int channel, int at, int message) {
            trace.log(thread, Trace.HANDLER_GETS, HANDLER_WEIGHT * channels.numbers[at] + message);
            switch (channels.kinds[at]) {
                case Channels.SWALLOWS_ODD:
                    return message % 2 != 0 ? SWALLOWED : PASSED;
                case Channels.ECHOES:
                    echo(thread, channel, message);
                    return PASSED;
                case Channels.RUNS:
                    doOrders(thread, channels.tasks[at], 0);
                    return PASSED;
                case Channels.THROWS:
                    return message % 3 == 0 ? THROWN : PASSED;
                default:
                    return PASSED;
            }
        }

        void echo(int thread, int channel, int message) {
            if (work < MOST_WORK) {
                work++;
                send(thread, channels.peer(channel), message);
            }
        }
    }
}
