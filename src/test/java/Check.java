/** Compares answers with what is due and counts what is not so. */
final class Check {
    interface Act {
        void go();
    }

    private static int wrong = 0;
    private static String place = "";

    private Check() {
    }

    static void same(String what, long got, long due) {
        if (got != due) {
            tell(what + ": answered " + got + ", due is " + due);
        }
    }

    static void same(String what, boolean got, boolean due) {
        same(what, got ? 1 : 0, due ? 1 : 0);
    }

    static void same(String what, String got, String due) {
        if (!got.equals(due)) {
            tell(what + ":\n  answered " + got + "\n  due is   " + due);
        }
    }

    static void illegalArgument(String what, Act act) {
        thrown(what, act, IllegalArgumentException.class);
    }

    static void illegalState(String what, Act act) {
        thrown(what, act, IllegalStateException.class);
    }

    static void outOfBounds(String what, Act act) {
        thrown(what, act, IndexOutOfBoundsException.class);
    }

    /** Numbers that are none of 0 .. count - 1: the nearest, the farthest, and some that a product brings back. */
    static int[] outside(int count) {
        return new int[] {
            -1, count, count + 1, -count - 3, 1 << 16, 1 << 28, 1 << 29, -(1 << 29), Integer.MAX_VALUE, Integer.MIN_VALUE};
    }

    /** The host's call can't be: the exception, and nothing at all has changed. */
    static void cannotBe(String what, Group group, Act act) {
        refused(what, group, IllegalArgumentException.class, act);
    }

    /** There is no room for it: the exception, and nothing at all has changed. */
    static void isFull(String what, Group group, Act act) {
        refused(what, group, IllegalStateException.class, act);
    }

    static void refused(String what, Group group, Class<?> due, Act act) {
        long before = Inside.all(group);
        thrown(what, act, due);
        same(what + " leaves all as it was", Inside.all(group), before);
    }

    /** The host's call is rejected: 4 is logged with this value, and nothing else has changed. */
    static void rejected(String what, Group group, int value, Act act) {
        long before = Inside.allButTrace(group);
        int from = group.traced();
        thrown(what, act, IllegalStateException.class);
        traceIs(what, group, from, "-1:4:" + value);
        same(what + " leaves all else as it was", Inside.allButTrace(group), before);
    }

    static void thrown(String what, Act act, Class<?> due) {
        String got = "nothing";
        try {
            act.go();
        } catch (RuntimeException e) {
            got = e.getClass().getSimpleName();
        }
        same(what + " throws", got, due.getSimpleName());
    }

    /** Entries from .. of the trace, each as loop:kind:value. */
    static String trace(Group group, int from) {
        StringBuilder text = new StringBuilder();
        int end = group.traced();
        for (int k = from; k < end; k++) {
            text.append(k == from ? "" : " ").append(group.trace(k, 0)).append(':')
                .append(group.trace(k, 1)).append(':').append(group.trace(k, 2));
        }
        return text.toString();
    }

    static void traceIs(String what, Group group, String due) {
        traceIs(what, group, 0, due);
    }

    static void traceIs(String what, Group group, int from, String due) {
        same(what + ": trace", trace(group, from), due);
    }

    /** A task with orders of kind, a, b each. */
    static int task(Group group, int... orders) {
        int task = group.task();
        for (int k = 0; k < orders.length; k += 3) {
            group.order(task, orders[k], orders[k + 1], orders[k + 2]);
        }
        return task;
    }

    /** What the faults told from now on belong to. */
    static void within(String what) {
        place = what.isEmpty() ? "" : "\"" + what + "\": ";
    }

    static void tell(String fault) {
        wrong++;
        System.out.println(place + fault);
    }

    static void end() {
        if (wrong != 0) {
            System.out.println(wrong + " wrong");
            System.exit(1);
        }
    }
}
