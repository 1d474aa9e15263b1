/** Compares answers with what is due and counts what is not so. */
final class Check {
    interface Act {
        void go();
    }

    private static int wrong = 0;

    private Check() {
    }

    static void same(String what, long got, long due) {
        if (got != due) {
            tell(what + ": answered " + got + ", due is " + due);
        }
    }

    static void same(String what, boolean got, boolean due) {
        same(what, got ? 1 : 0, due ? 1 : 0);
    }

    static void same(String what, String got, String due) {
        if (!got.equals(due)) {
            tell(what + ":\n  answered " + got + "\n  due is   " + due);
        }
    }

    static void illegalArgument(String what, Act act) {
        thrown(what, act, IllegalArgumentException.class);
    }

    static void illegalState(String what, Act act) {
        thrown(what, act, IllegalStateException.class);
    }

    static void outOfBounds(String what, Act act) {
        thrown(what, act, IndexOutOfBoundsException.class);
    }

    private static void thrown(String what, Act act, Class<?> due) {
        String got = "nothing";
        try {
            act.go();
        } catch (RuntimeException e) {
            got = e.getClass().getSimpleName();
        }
        same(what + " throws", got, due.getSimpleName());
    }

    /** Entries from .. of the trace, each as loop:kind:value. */
    static String trace(Group group, int from) {
        StringBuilder text = new StringBuilder();
        int end = group.traced();
        for (int k = from; k < end; k++) {
            text.append(k == from ? "" : " ").append(group.trace(k, 0)).append(':')
                .append(group.trace(k, 1)).append(':').append(group.trace(k, 2));
        }
        return text.toString();
    }

    static void traceIs(String what, Group group, String due) {
        traceIs(what, group, 0, due);
    }

    static void traceIs(String what, Group group, int from, String due) {
        same(what + ": trace", trace(group, from), due);
    }

    /** A task with orders of kind, a, b each. */
    static int task(Group group, int... orders) {
        int task = group.task();
        for (int k = 0; k < orders.length; k += 3) {
            group.order(task, orders[k], orders[k + 1], orders[k + 2]);
        }
        return task;
    }

    static void tell(String fault) {
        wrong++;
        System.out.println(fault);
    }

    static void end() {
        if (wrong != 0) {
            System.out.println(wrong + " wrong");
            System.exit(1);
        }
    }
}
