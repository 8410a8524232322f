/** What all tests use: names for the ops, programs written in one line, and the comparing of answers. */
final class Check {
    static final int SET = 0, MOVE = 1, ADD = 2, LESS = 3, JUMP = 4, ZERO = 5, BELOW = 6, TELL = 7, FORK = 8;
    static final int EXEC = 9, EXIT = 10, WAIT = 11, LOOK = 12, WATCH = 13, KILL = 14, ACTION = 15, MASK = 16;
    static final int PAUSE = 17, RETURN = 18, ALARM = 19, OWN = 20, PARENT = 21, GROUP = 22, JOIN = 23;
    /** An op that is not told: it does nothing. */
    static final int IDLE = 99;

    static final int READY = 0, WAITING = 1, PAUSED = 2, STOPPED = 3, ZOMBIE = 4;

    static final int NEXT = 4, PENDING = 5, BLOCKED = 6, HANDLERS = 7, UNTIL_ALARM = 8, HOW_ENDED = 9;

    static final int UNKNOWN = ProcessTable.UNKNOWN, OUTSIDE = ProcessTable.OUTSIDE;
    static final int STATE = ProcessTable.STATE, FULL = ProcessTable.FULL, NONE = ProcessTable.NONE;

    static final int MAX = Integer.MAX_VALUE, MIN = Integer.MIN_VALUE;

    private static int wrong;

    private Check() {
    }

    static void due(String what, int got, int want) {
        if (got != want) {
            wrong++;
            System.out.println(what + " is " + got + ", due is " + want);
        }
    }

    /** Triples op, a, b become acts of program p. */
    static void load(ProcessTable t, int p, int... acts) {
        for (int i = 0; i + 2 < acts.length; i += 3) {
            t.act(p, acts[i], acts[i + 1], acts[i + 2]);
        }
    }

    /** A new table with PID 1 of program 0, made of triples op, a, b. */
    static ProcessTable booted(int... acts) {
        ProcessTable t = new ProcessTable();
        load(t, 0, acts);
        t.boot(0);
        return t;
    }

    /** PID 1 and its child, PID 2, both PAUSED for ever; the child does the acts first (its first act is act 4). */
    static ProcessTable withChild(int... childActs) {
        int[] start = {FORK, 0, 0, ZERO, 0, 4, PAUSE, 7, 0, JUMP, 2, 0};
        int[] acts = new int[start.length + childActs.length + 6];
        System.arraycopy(start, 0, acts, 0, start.length);
        System.arraycopy(childActs, 0, acts, start.length, childActs.length);
        int pauseAct = (start.length + childActs.length) / 3;
        int[] stop = {PAUSE, 6, 0, JUMP, pauseAct, 0};
        System.arraycopy(stop, 0, acts, acts.length - 6, 6);
        ProcessTable t = booted(acts);
        t.tick(5 + childActs.length / 3);
        return t;
    }

    static void same(String what, String got, String want) {
        if (!got.equals(want)) {
            wrong++;
            System.out.println(what + " is\n  " + got + "\nand was\n  " + want);
        }
    }

    /** All that the calls tell of the counts, the log and up to four processes, in some 200 calls. */
    static String snapshot(ProcessTable t) {
        StringBuilder all = new StringBuilder();
        for (int what = 0; what < 10; what++) {
            all.append(" count ").append(t.count(what));
        }
        for (int i = 0; i < 3; i++) {
            all.append(" log ").append(t.log(i, 0)).append(' ').append(t.log(i, 1));
        }
        int shown = 0;
        for (int e = 0; e < 24 && shown < 4; e++) {
            int pid = t.entry(e);
            if (pid != 0) {
                shown++;
                all.append("\n  ").append(pid).append(':').append(snapshot(t, pid));
            }
        }
        return all.toString();
    }

    private static String snapshot(ProcessTable t, int pid) {
        StringBuilder all = new StringBuilder();
        for (int what = 0; what < 10; what++) {
            all.append(" told ").append(t.told(pid, what));
        }
        for (int r = 0; r < 8; r++) {
            all.append(" register ").append(t.register(pid, r));
        }
        for (int s = 1; s <= 20; s++) {
            all.append(" action ").append(t.action(pid, s));
        }
        all.append(" child ").append(t.child(pid, 0)).append(" members ").append(t.members(pid));
        return all.toString();
    }

    static void finish() {
        System.out.println(wrong == 0 ? "ok" : wrong + " wrong");
        if (wrong != 0) {
            System.exit(1);
        }
    }
}
