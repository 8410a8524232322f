/** Promise 5: FORK, EXEC, EXIT, WAIT, LOOK, WATCH, OWN, PARENT, GROUP, JOIN. */
public final class FamilyTest {
    public static void main(String[] args) {
        forkCopies();
        forkInAHandler();
        forkInAFreedEntry();
        forkRefused();
        forkTakesTheFirstFreeEntry();
        newPidsGoRound();
        newPidsSpareGroups();
        execBecomesAnother();
        execRefused();
        exitStatus();
        waitMeansOnePid();
        waitMeansGroups();
        waitHasNoChild();
        waitTakesTheFirstByEntries();
        waitTellsBothInOneRegister();
        waitIsTriedAgain();
        lookNeverWaits();
        watchTellsStopsOnce();
        watchPrefersZombies();
        names();
        joinSelfAndChild();
        joinRefused();
        Check.finish();
    }

    private static void forkCopies() {
        ProcessTable t = Check.booted(Check.SET, 3, 33, Check.ACTION, 5, 1, Check.ACTION, 6, 9, Check.SET, 1, 1 << 5,
            Check.MASK, 1, 0, Check.SET, 2, 50, Check.ALARM, 2, 0, Check.ACTION, 20, 7, Check.FORK, 0, 0,
            Check.PAUSE, 7, 0);
        t.tick(5);
        t.kill(1, 5);
        Check.due("5: pending at the parent", t.told(1, Check.PENDING), 1 << 5);
        t.tick(4);
        int[] told = {Check.READY, 1, 1, 0, 9, 0, 1 << 5, 0, 0, 0};
        for (int what = 0; what < told.length; what++) {
            Check.due("5: FORK, told " + what, t.told(2, what), told[what]);
        }
        Check.due("5: FORK, a register", t.register(2, 3), 33);
        Check.due("5: FORK, ra there", t.register(2, 0), 0);
        Check.due("5: FORK, ra here", t.register(1, 0), 2);
        Check.due("5: FORK, action 1", t.action(2, 5), 1);
        Check.due("5: FORK, a handler", t.action(2, 6), 9);
        Check.due("5: FORK, the last action", t.action(2, 20), 7);
        Check.due("5: FORK done", t.count(4), 1);
    }

    private static void forkInAHandler() {
        ProcessTable t = Check.booted(Check.ACTION, 10, 2 + 5, Check.SET, 3, 1 << 4, Check.MASK, 3, 0,
            Check.PAUSE, 0, 0, Check.PAUSE, 1, 0, Check.FORK, 2, 0, Check.RETURN, 0, 0);
        t.tick(4);
        t.kill(1, 10);
        t.tick(2);
        Check.due("5: HANDLERS under way are copied", t.told(2, Check.HANDLERS), 1);
        Check.due("5: BLOCKED is copied", t.told(2, Check.BLOCKED), 1 << 10 | 1 << 4);
        t.tick(1);
        Check.due("5: the child returns", t.told(2, Check.HANDLERS), 0);
        Check.due("5: to the kept act", t.told(2, Check.NEXT), 4);
        Check.due("5: with the kept BLOCKED", t.told(2, Check.BLOCKED), 1 << 4);
    }

    private static void forkInAFreedEntry() {
        ProcessTable t = new ProcessTable();
        // PID 2 becomes program 1, with an alarm, a handler and what is blocked; PID 1 watches it, then forks again.
        Check.load(t, 0, Check.FORK, 0, 0, Check.ZERO, 0, 13, Check.SET, 1, -1, Check.WATCH, 1, 2, Check.SET, 1, -1,
            Check.WATCH, 1, 2, Check.FORK, 0, 0, Check.ZERO, 0, 15, Check.MOVE, 3, 0, Check.JOIN, 3, 4,
            Check.SET, 1, -1, Check.WATCH, 1, 2, Check.PAUSE, 7, 0, Check.EXEC, 0, 1, Check.IDLE, 0, 0,
            Check.PAUSE, 6, 0);
        Check.load(t, 1, Check.SET, 5, 150, Check.ALARM, 5, 0, Check.ACTION, 10, 2 + 6, Check.SET, 5, -1,
            Check.PAUSE, 4, 0, Check.PAUSE, 4, 0, Check.MASK, 5, 0, Check.PAUSE, 4, 0);
        t.boot(0);
        t.tick(30);
        t.kill(2, 10);
        t.tick(5);
        t.kill(2, 15);
        t.kill(2, 19);
        t.tick(5);
        Check.due("5: the stop is told", t.register(1, 2), 256 * 19 + 127);
        Check.due("5: a handler is under way", t.told(2, Check.HANDLERS), 1);
        Check.due("5: one is pending", t.told(2, Check.PENDING), 1 << 15);
        t.kill(2, 9);
        t.tick(2);
        Check.due("5: PID 3 is in the entry that got free", t.entry(1), 3);
        int[] told = {Check.READY, 1, 1, 0, 7, 0, 0, 0, 0, 0};
        for (int what = 0; what < told.length; what++) {
            Check.due("5: all is new, told " + what, t.told(3, what), told[what]);
        }
        Check.due("5: no handler", t.action(3, 10), 0);
        t.tick(20);
        Check.due("5: it did no EXEC", t.register(1, 3), 0);
        Check.due("5: so it joins", t.told(3, 2), 3);
        Check.due("5: PID 1 watches", t.told(1, 0), Check.WAITING);
        t.kill(3, 20);
        t.tick(1);
        Check.due("5: its stop was not told", t.register(1, 2), 256 * 20 + 127);
    }

    private static void forkRefused() {
        ProcessTable t = Check.booted(Check.FORK, 0, 0, Check.ZERO, 0, 3, Check.JUMP, 0, 0, Check.PAUSE, 0, 0);
        t.tick(200);
        Check.due("5: full", t.count(0), 24);
        Check.due("5: the forks", t.count(4), 23);
        Check.due("5: some refused", t.count(5) > 0 ? 1 : 0, 1);
        while (t.told(1, Check.NEXT) != 1) {
            t.tick(1);
        }
        Check.due("5: refused", t.register(1, 0), -11);
        Check.due("5: every entry has one", t.entry(23), 24);
    }

    private static void forkTakesTheFirstFreeEntry() {
        // Children 2, 3, 4 pause; PID 1 waits for PID 3, then forks again.
        ProcessTable t = Check.booted(
            Check.FORK, 0, 0, Check.ZERO, 0, 9, Check.FORK, 0, 0, Check.ZERO, 0, 9, Check.FORK, 0, 0, Check.ZERO, 0, 9,
            Check.SET, 1, 3, Check.WAIT, 1, 2, Check.FORK, 0, 0, Check.PAUSE, 0, 0);
        t.tick(40);
        Check.due("5: PID 1 waits", t.told(1, 0), Check.WAITING);
        t.kill(3, 9);
        t.tick(2);
        Check.due("5: the entry that got free", t.entry(2), 5);
        Check.due("5: a new PID, not the old one", t.told(3, 0), Check.UNKNOWN);
        Check.due("5: how PID 3 ended", t.register(1, 2), 9);
    }

    private static void newPidsGoRound() {
        // Forks a child that ends, waits for it and tells its PID.
        ProcessTable t = Check.booted(Check.FORK, 0, 0, Check.ZERO, 0, 6, Check.TELL, 0, 0, Check.MOVE, 1, 0,
            Check.WAIT, 1, 2, Check.JUMP, 0, 0, Check.EXIT, 0, 0);
        for (int i = 0; i < 120 && t.count(4) < 1002; i++) {
            t.tick(100);
        }
        Check.due("5: behind 999 comes 2", pidToldBehind(t, 999), 2);
        Check.due("5: behind 2 comes 3", pidToldBehind(t, 2), 3);
    }

    private static void newPidsSpareGroups() {
        // PID 2 makes group 2, leaves PID 3 in it and ends; PID 1 frees it and goes round.
        ProcessTable t = Check.booted(
            Check.FORK, 0, 0, Check.ZERO, 0, 10, Check.MOVE, 1, 0, Check.WAIT, 1, 2, Check.FORK, 0, 0,
            Check.ZERO, 0, 14, Check.TELL, 0, 0, Check.MOVE, 1, 0, Check.WAIT, 1, 2, Check.JUMP, 4, 0,
            Check.JOIN, 3, 3, Check.FORK, 0, 0, Check.ZERO, 0, 15, Check.EXIT, 4, 0, Check.EXIT, 4, 0,
            Check.PAUSE, 5, 0);
        for (int i = 0; i < 120 && t.count(4) < 1002; i++) {
            t.tick(100);
        }
        Check.due("5: PID 3 lives", t.told(3, 0), Check.PAUSED);
        Check.due("5: PID 2 is gone", t.told(2, 0), Check.UNKNOWN);
        Check.due("5: group 2 is not", t.members(2), 1);
        Check.due("5: behind 999, sparing group 2 and PID 3", pidToldBehind(t, 999), 4);
    }

    private static int pidToldBehind(ProcessTable t, int pid) {
        for (int i = 1; i < 40; i++) {
            if (t.log(i, 1) == pid) {
                return t.log(i - 1, 1);
            }
        }
        return 0;
    }

    private static void execBecomesAnother() {
        ProcessTable t = new ProcessTable();
        Check.load(t, 0, Check.ACTION, 10, 2 + 6, Check.ACTION, 12, 1, Check.SET, 3, 33, Check.SET, 4, 99,
            Check.ALARM, 4, 0, Check.PAUSE, 0, 0, Check.SET, 1, 1 << 12, Check.MASK, 1, 0, Check.ACTION, 20, 3,
            Check.EXEC, 1, 15);
        Check.load(t, 15, Check.SET, 5, 55);
        t.boot(0);
        t.tick(6);
        t.kill(1, 10);
        t.tick(3);
        t.kill(1, 12);
        t.tick(1);
        Check.due("5: a handler is under way", t.told(1, Check.HANDLERS), 1);
        int left = t.told(1, Check.UNTIL_ALARM);
        t.tick(1);
        Check.due("5: EXEC, program", t.told(1, 3), 15);
        Check.due("5: EXEC, next act", t.told(1, Check.NEXT), 0);
        Check.due("5: EXEC, handlers are 0", t.action(1, 10), 0);
        Check.due("5: EXEC, the last handler is 0", t.action(1, 20), 0);
        Check.due("5: EXEC, nothing stays nothing", t.action(1, 12), 1);
        Check.due("5: EXEC, none under way", t.told(1, Check.HANDLERS), 0);
        Check.due("5: EXEC, BLOCKED stays", t.told(1, Check.BLOCKED), 1 << 12);
        Check.due("5: EXEC, PENDING stays", t.told(1, Check.PENDING), 1 << 12);
        Check.due("5: EXEC, REGISTERS stay", t.register(1, 3), 33);
        Check.due("5: EXEC, ra stays", t.register(1, 1), 1 << 10);
        Check.due("5: EXEC, ALARM stays", t.told(1, Check.UNTIL_ALARM), left - 1);
        t.tick(1);
        Check.due("5: EXEC, the new program goes on", t.register(1, 5), 55);
    }

    private static void execRefused() {
        for (int b : new int[] {-1, 16, Check.MAX, Check.MIN}) {
            ProcessTable t = Check.booted(Check.ACTION, 10, 5, Check.EXEC, 2, b, Check.PAUSE, 0, 0);
            t.tick(2);
            Check.due("5: EXEC " + b, t.register(1, 2), -2);
            Check.due("5: EXEC refused, next act", t.told(1, Check.NEXT), 2);
            Check.due("5: EXEC refused, action", t.action(1, 10), 5);
        }
    }

    private static void exitStatus() {
        int[][] pairs = {{0, 0}, {7, 1792}, {255, 65280}, {256, 0}, {-1, 65280}, {513, 256}};
        for (int[] pair : pairs) {
            ProcessTable t = Check.withChild(Check.SET, 3, pair[0], Check.EXIT, 3, 0);
            Check.due("5: EXIT " + pair[0], t.told(2, Check.HOW_ENDED), pair[1]);
            Check.due("5: a zombie", t.told(2, 0), Check.ZOMBIE);
            Check.due("5: the act behind EXIT is next", t.told(2, Check.NEXT), 6);
        }
    }

    private static void waitMeansOnePid() {
        ProcessTable t = waiter(Check.WAIT, 3);
        t.kill(2, 9);
        t.tick(5);
        Check.due("5: PID 2 is not meant", t.told(1, 0), Check.WAITING);
        Check.due("5: WAIT is next again", t.told(1, Check.NEXT), 5);
        t.kill(3, 9);
        t.tick(1);
        Check.due("5: ra is the PID", t.register(1, 1), 3);
        Check.due("5: rb is how", t.register(1, 2), 9);
        Check.due("5: its entry is free", t.entry(2), 0);
        Check.due("5: the other zombie stays", t.entry(1), 2);
        Check.due("5: the act behind is next", t.told(1, Check.NEXT), 6);
    }

    /** PID 1 forks 2 and 3 (in group 3) and does op with register 1 being meant, then pauses. */
    private static ProcessTable waiter(int op, int meant) {
        ProcessTable t = Check.booted(
            Check.FORK, 0, 0, Check.ZERO, 0, 9, Check.FORK, 0, 0, Check.ZERO, 0, 8, Check.SET, 1, meant, op, 1, 2,
            Check.PAUSE, 7, 0, Check.JUMP, 6, 0, Check.JOIN, 3, 3, Check.PAUSE, 6, 0, Check.JUMP, 9, 0);
        t.tick(20);
        return t;
    }

    private static void waitMeansGroups() {
        ProcessTable own = waiter(Check.WAIT, 0);
        own.kill(3, 9);
        own.tick(5);
        Check.due("5: 0 is not group 3", own.told(1, 0), Check.WAITING);
        own.kill(2, 15);
        own.tick(1);
        Check.due("5: 0 is its own group", own.register(1, 1), 2);
        Check.due("5: how", own.register(1, 2), 15);

        ProcessTable other = waiter(Check.WAIT, -3);
        other.kill(2, 9);
        other.tick(5);
        Check.due("5: -3 is not group 1", other.told(1, 0), Check.WAITING);
        other.kill(3, 15);
        other.tick(1);
        Check.due("5: -3 is group 3", other.register(1, 1), 3);
    }

    private static void waitHasNoChild() {
        for (int meant : new int[] {1, 4, -2, -4, Check.MAX, Check.MIN}) {
            for (int op = Check.WAIT; op <= Check.WATCH; op++) {
                ProcessTable t = waiter(op, meant);
                Check.due("5: no child " + meant, t.register(1, 1), -10);
                Check.due("5: rb stays", t.register(1, 2), 0);
                Check.due("5: it went on", t.told(1, 0), Check.PAUSED);
            }
        }
    }

    private static void waitTakesTheFirstByEntries() {
        ProcessTable t = Check.booted(
            Check.FORK, 0, 0, Check.ZERO, 0, 9, Check.FORK, 0, 0, Check.ZERO, 0, 9, Check.ACTION, 10, 2 + 6,
            Check.PAUSE, 7, 0, Check.SET, 1, -1, Check.WAIT, 1, 2, Check.JUMP, 6, 0, Check.PAUSE, 0, 0);
        t.tick(20);
        t.kill(3, 9);
        t.kill(2, 15);
        t.kill(1, 10);
        t.tick(3);
        Check.due("5: the first by entries", t.register(1, 1), 2);
        t.tick(3);
        Check.due("5: then the other", t.register(1, 1), 3);
        t.tick(3);
        Check.due("5: then none", t.register(1, 1), -10);
    }

    private static void waitTellsBothInOneRegister() {
        ProcessTable t = Check.booted(Check.FORK, 0, 0, Check.ZERO, 0, 4, Check.WAIT, 0, 8, Check.PAUSE, 1, 0,
            Check.SET, 0, 3, Check.EXIT, 0, 0);
        t.tick(20);
        Check.due("5: ra, then rb, are one register", t.register(1, 0), 768);
        ProcessTable watch = new Acts().fork(0, "sleep").op(Check.WATCH, 3, 11).at("sleep").sleep().boot(20);
        watch.kill(2, 20);
        watch.tick(2);
        Check.due("5: of WATCH, too", watch.register(1, 3), 256 * 20 + 127);
    }

    private static void waitIsTriedAgain() {
        ProcessTable t = waiter(Check.WAIT, 3);
        t.kill(2, 20);
        Check.due("5: READY, as a child stopped", t.told(1, 0), Check.READY);
        Check.due("5: its turn", t.tick(3), 1);
        Check.due("5: WAITING again", t.told(1, 0), Check.WAITING);
        t.kill(2, 9);
        Check.due("5: READY, as a child ended", t.told(1, 0), Check.READY);
    }

    private static void lookNeverWaits() {
        ProcessTable t = waiter(Check.LOOK, -1);
        Check.due("5: LOOK, none ended", t.register(1, 1), 0);
        Check.due("5: LOOK, rb stays", t.register(1, 2), 0);
        Check.due("5: LOOK goes on", t.told(1, 0), Check.PAUSED);

        ProcessTable ended = Check.booted(Check.FORK, 0, 0, Check.ZERO, 0, 6, Check.IDLE, 0, 0, Check.IDLE, 0, 0,
            Check.LOOK, 0, 1, Check.PAUSE, 7, 0, Check.SET, 0, 2, Check.EXIT, 0, 0);
        ended.tick(20);
        Check.due("5: LOOK, one ended", ended.register(1, 0), 2);
        Check.due("5: LOOK, how", ended.register(1, 1), 512);
        Check.due("5: LOOK frees", ended.count(0), 1);
    }

    /** PID 1 tells, of each WATCH, ra and rb; PID 2 and 3 pause. */
    private static ProcessTable watcher() {
        ProcessTable t = Check.booted(
            Check.FORK, 0, 0, Check.ZERO, 0, 9, Check.FORK, 0, 0, Check.ZERO, 0, 9, Check.SET, 1, -1,
            Check.WATCH, 1, 2, Check.TELL, 1, 0, Check.TELL, 2, 0, Check.JUMP, 4, 0,
            Check.PAUSE, 6, 0, Check.JUMP, 9, 0);
        t.tick(20);
        return t;
    }

    private static void watchTellsStopsOnce() {
        ProcessTable t = watcher();
        t.kill(3, 20);
        t.tick(20);
        Check.due("5: WATCH, the PID", t.log(1, 1), 3);
        Check.due("5: WATCH, the signal", t.log(0, 1), 256 * 20 + 127);
        Check.due("5: told once", t.told(1, 0), Check.WAITING);
        Check.due("5: not freed", t.told(3, 0), Check.STOPPED);
        t.kill(3, 19);
        t.tick(20);
        Check.due("5: it stayed stopped, nothing more", t.log(2, 1), Check.NONE);
        t.kill(3, 18);
        t.kill(3, 19);
        t.tick(20);
        Check.due("5: a new stop is told", t.log(0, 1), 256 * 19 + 127);
        Check.due("5: of PID 3", t.log(1, 1), 3);
    }

    private static void watchPrefersZombies() {
        ProcessTable t = watcher();
        t.kill(2, 19);
        t.kill(3, 9);
        t.tick(3);
        Check.due("5: the zombie first", t.log(1, 1), 3);
        t.tick(20);
        Check.due("5: the stopped one then", t.log(1, 1), 2);
        t.kill(2, 18);
        t.kill(2, 19);
        t.kill(2, 18);
        t.tick(20);
        Check.due("5: one that went on is not told", t.log(4, 1), Check.NONE);
    }

    private static void names() {
        ProcessTable t = Check.booted(Check.FORK, 0, 0, Check.OWN, 1, 0, Check.PARENT, 2, 0, Check.GROUP, 3, 0,
            Check.PAUSE, 0, 0);
        t.tick(20);
        int[][] want = {{1, 0, 1}, {2, 1, 1}};
        for (int pid = 1; pid <= 2; pid++) {
            for (int i = 0; i < 3; i++) {
                Check.due("5: name " + i + " of " + pid, t.register(pid, i + 1), want[pid - 1][i]);
            }
        }
    }

    private static void joinSelfAndChild() {
        ProcessTable self = Check.withChild(Check.JOIN, 3, 3, Check.GROUP, 4, 0);
        Check.due("5: JOIN 0 0, ra", self.register(2, 3), 0);
        Check.due("5: JOIN 0 0", self.told(2, 2), 2);
        Check.due("5: GROUP", self.register(2, 4), 2);

        ProcessTable back = Check.withChild(Check.JOIN, 3, 3, Check.OWN, 3, 0, Check.SET, 4, 1, Check.JOIN, 3, 4);
        Check.due("5: JOIN back by its own PID", back.told(2, 2), 1);
        Check.due("5: ra", back.register(2, 3), 0);

        ProcessTable child = Check.booted(Check.FORK, 0, 0, Check.ZERO, 0, 3, Check.JOIN, 0, 1, Check.PAUSE, 7, 0);
        child.tick(20);
        Check.due("5: JOIN of a child, its PID", child.told(2, 2), 2);
        Check.due("5: not of itself", child.told(1, 2), 1);
        Check.due("5: ra", child.register(1, 0), 0);

        ProcessTable same = Check.booted(Check.FORK, 0, 0, Check.ZERO, 0, 3, Check.JOIN, 0, 8, Check.PAUSE, 7, 0);
        same.tick(20);
        Check.due("5: JOIN, ra and rb one register", same.told(2, 2), 2);
    }

    private static void joinRefused() {
        ProcessTable parent = Check.withChild(Check.SET, 3, 1, Check.JOIN, 3, 4);
        Check.due("5: JOIN of its parent", parent.register(2, 3), -3);
        for (int nobody : new int[] {3, -1, -2, Check.MAX, Check.MIN}) {
            ProcessTable t = Check.withChild(Check.SET, 3, nobody, Check.JOIN, 3, 4);
            Check.due("5: JOIN of " + nobody, t.register(2, 3), -3);
        }
        for (int group : new int[] {3, -1, 999, Check.MIN}) {
            ProcessTable t = Check.withChild(Check.SET, 4, group, Check.JOIN, 3, 4);
            Check.due("5: JOIN to group " + group, t.register(2, 3), -1);
            Check.due("5: the group stays", t.told(2, 2), 1);
        }
        joinOfAZombie();
        joinBehindExec();
    }

    private static void joinOfAZombie() {
        ProcessTable t = Check.booted(Check.FORK, 0, 0, Check.ZERO, 0, 6, Check.IDLE, 0, 0, Check.IDLE, 0, 0,
            Check.JOIN, 0, 1, Check.PAUSE, 7, 0, Check.EXIT, 0, 0);
        t.tick(20);
        Check.due("5: JOIN of a zombie", t.register(1, 0), -3);
    }

    private static void joinBehindExec() {
        ProcessTable t = new ProcessTable();
        // PID 2 does EXEC of program 1, where it joins group 2 itself, forks PID 3 and joins that.
        Check.load(t, 0, Check.FORK, 0, 0, Check.ZERO, 0, 8, Check.IDLE, 0, 0, Check.IDLE, 0, 0, Check.SET, 1, 500,
            Check.JOIN, 0, 1, Check.PAUSE, 7, 0, Check.JUMP, 6, 0, Check.EXEC, 0, 1);
        Check.load(t, 1, Check.JOIN, 3, 3, Check.FORK, 4, 0, Check.ZERO, 4, 5, Check.MOVE, 5, 4,
            Check.JOIN, 5, 6, Check.PAUSE, 7, 0);
        t.boot(0);
        t.tick(60);
        Check.due("5: JOIN of a child that did EXEC, ahead of -1", t.register(1, 0), -13);
        Check.due("5: it joins itself", t.register(2, 3), 0);
        Check.due("5: its group", t.told(2, 2), 2);
        Check.due("5: its own child did no EXEC", t.register(2, 5), 0);
        Check.due("5: the group of that", t.told(3, 2), 3);

        ProcessTable failed = Check.booted(Check.FORK, 0, 0, Check.ZERO, 0, 6, Check.IDLE, 0, 0, Check.IDLE, 0, 0,
            Check.JOIN, 0, 1, Check.PAUSE, 7, 0, Check.EXEC, 2, 16, Check.PAUSE, 7, 0);
        failed.tick(20);
        Check.due("5: an EXEC that was refused is none", failed.register(1, 0), 0);
    }
}
