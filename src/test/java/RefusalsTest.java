/** 'Terms', what calls answer: which refusal comes first, and that nothing changes by one. */
public final class RefusalsTest {
    private static final int[] NO_PROGRAMS = {-1, 16, 17, Check.MIN, Check.MAX};
    private static final int[] NO_PIDS = {0, -1, 3, 999, 1000, Check.MIN, Check.MAX};
    private static final int[] NO_SIGNALS = {0, -1, 21, 32, 33, Check.MIN, Check.MAX};

    public static void main(String[] args) {
        noSuchProgram();
        noSuchPid();
        noSuchEntry();
        pidsThatAreNotThereYetOrAnyMore();
        outsideTheBounds();
        unknownAheadOfOutside();
        unknownAheadOfState();
        unknownAheadOfFull();
        bootInAnyState();
        refusalsChangeNothing();
        fullChangesNothing();
        toldAsARefusalIs();
        Check.finish();
    }

    /** "UNKNOWN (no such PROGRAM": 0 and 15 are the edges that are. */
    private static void noSuchProgram() {
        for (int p : NO_PROGRAMS) {
            ProcessTable t = new ProcessTable();
            Check.due("2: act(" + p + ")", t.act(p, 0, 0, 0), Check.UNKNOWN);
            Check.due("3: wipe(" + p + ")", t.wipe(p), Check.UNKNOWN);
            Check.due("4: boot(" + p + ")", t.boot(p), Check.UNKNOWN);
        }
        for (int p : new int[] {0, 15}) {
            ProcessTable t = new ProcessTable();
            Check.due("2: act(" + p + ")", t.act(p, 0, 0, 0), 1);
            Check.due("3: wipe(" + p + ")", t.wipe(p), 1);
            Check.due("4: boot(" + p + ")", t.boot(p), 1);
        }
    }

    /** "UNKNOWN (no such .. PID": in a table with PID 1 and 2, and in one that is free. */
    private static void noSuchPid() {
        ProcessTable t = Check.withChild();
        ProcessTable free = new ProcessTable();
        for (int pid : NO_PIDS) {
            unknownPid(t, pid);
            unknownPid(free, pid);
        }
        unknownPid(free, 1);
    }

    private static void unknownPid(ProcessTable t, int pid) {
        Check.due("6: kill(" + pid + ")", t.kill(pid, 1), Check.UNKNOWN);
        Check.due("8: told(" + pid + ")", t.told(pid, 0), Check.UNKNOWN);
        Check.due("9: register(" + pid + ")", t.register(pid, 0), Check.UNKNOWN);
        Check.due("10: action(" + pid + ")", t.action(pid, 1), Check.UNKNOWN);
        Check.due("11: child(" + pid + ")", t.child(pid, 0), Check.UNKNOWN);
    }

    /** "UNKNOWN (no such .. ENTRY": it is not OUTSIDE, though a number out of its bounds. */
    private static void noSuchEntry() {
        ProcessTable t = Check.withChild();
        for (int e : new int[] {-1, 24, 25, Check.MIN, Check.MAX}) {
            Check.due("7: entry(" + e + ")", t.entry(e), Check.UNKNOWN);
        }
        Check.due("7: entry(0)", t.entry(0), 1);
        Check.due("7: entry(23)", t.entry(23), 0);
    }

    /** A PID is one from its FORK on till its ENTRY is free; as a ZOMBIE it still is. */
    private static void pidsThatAreNotThereYetOrAnyMore() {
        Acts acts = new Acts().fork(0, "child").handle(10, "wait").sleep();
        ProcessTable t = acts.at("wait").op(Check.WAIT, 0, 1).at("child").sleep().boot(0);
        unknownPid(t, 2);
        t.tick(20);
        Check.due("6: kill(2) of one that lives", t.kill(2, 15), 1);
        Check.due("6: kill(2) of a zombie", t.kill(2, 15), 1);
        Check.due("8: told of a zombie", t.told(2, 0), Check.ZOMBIE);
        Check.due("9: register of a zombie", t.register(2, 0), 0);
        Check.due("10: action of a zombie", t.action(2, 1), 0);
        Check.due("11: child of a zombie", t.child(2, 0), 0);
        t.kill(1, 10);
        t.tick(2);
        Check.due("5: waited for", t.register(1, 0), 2);
        unknownPid(t, 2);
    }

    /** "OUTSIDE (another number out of its bounds)". */
    private static void outsideTheBounds() {
        ProcessTable t = Check.withChild();
        for (int n : new int[] {-1, 201, 202, Check.MIN, Check.MAX}) {
            Check.due("5: tick(" + n + ")", t.tick(n), Check.OUTSIDE);
        }
        for (int s : NO_SIGNALS) {
            Check.due("6: kill(1, " + s + ")", t.kill(1, s), Check.OUTSIDE);
            Check.due("6: kill(2, " + s + ")", t.kill(2, s), Check.OUTSIDE);
            Check.due("10: action(2, " + s + ")", t.action(2, s), Check.OUTSIDE);
        }
        for (int what : new int[] {-1, 10, 11, Check.MIN, Check.MAX}) {
            Check.due("8: told(2, " + what + ")", t.told(2, what), Check.OUTSIDE);
            Check.due("14: count(" + what + ")", t.count(what), Check.OUTSIDE);
        }
        for (int r : new int[] {-1, 8, 9, -8, Check.MIN, Check.MAX}) {
            Check.due("9: register(2, " + r + ")", t.register(2, r), Check.OUTSIDE);
        }
        for (int what : new int[] {-1, 2, 3, Check.MIN, Check.MAX}) {
            Check.due("13: log(0, " + what + ")", t.log(0, what), Check.OUTSIDE);
        }
        for (int edge : new int[] {1, 20}) {
            Check.due("10: action(2, " + edge + ")", t.action(2, edge), 0);
        }
        Check.due("8: told(2, 9)", t.told(2, 9), 0);
        Check.due("14: count(9)", t.count(9), 0);
        Check.due("9: register(2, 7)", t.register(2, 7), 0);
    }

    /** "the first of these that fits: UNKNOWN .., OUTSIDE". */
    private static void unknownAheadOfOutside() {
        ProcessTable t = Check.withChild();
        for (int pid : NO_PIDS) {
            Check.due("6: kill(" + pid + ", 21)", t.kill(pid, 21), Check.UNKNOWN);
            Check.due("8: told(" + pid + ", 10)", t.told(pid, 10), Check.UNKNOWN);
            Check.due("9: register(" + pid + ", 8)", t.register(pid, 8), Check.UNKNOWN);
            Check.due("10: action(" + pid + ", 0)", t.action(pid, 0), Check.UNKNOWN);
            Check.due("11: child(" + pid + ", -1)", t.child(pid, -1), Check.UNKNOWN);
        }
    }

    /** "UNKNOWN .., STATE": boot of no PROGRAM, while there is a PID 1. */
    private static void unknownAheadOfState() {
        ProcessTable t = Check.withChild();
        for (int p : NO_PROGRAMS) {
            Check.due("4: boot(" + p + ")", t.boot(p), Check.UNKNOWN);
        }
        Check.due("4: boot(0)", t.boot(0), Check.STATE);
        Check.due("4: boot(15), of no acts", t.boot(15), Check.STATE);
    }

    private static void unknownAheadOfFull() {
        ProcessTable t = new ProcessTable();
        new Acts().idle(60).load(t, 15);
        for (int p : NO_PROGRAMS) {
            Check.due("2: act(" + p + ") beside a full one", t.act(p, 0, 0, 0), Check.UNKNOWN);
        }
        Check.due("2: act of the full one", t.act(15, 0, 0, 0), Check.FULL);
        Check.due("2: act of another", t.act(14, 0, 0, 0), 1);
    }

    /** "STATE: there is a PID 1", whatever it does; without one boot() is done again and again. */
    private static void bootInAnyState() {
        ProcessTable t = new Acts().fork(0, "child").op(Check.WAIT, 0, 1).op(Check.PAUSE, 2).op(Check.EXIT, 3)
            .at("child").sleep().boot(20);
        Check.due("4: PID 1 waits", t.told(1, 0), Check.WAITING);
        Check.due("4: boot", t.boot(0), Check.STATE);
        t.kill(2, 9);
        t.tick(3);
        Check.due("4: PID 1 pauses", t.told(1, 0), Check.PAUSED);
        Check.due("4: boot", t.boot(0), Check.STATE);

        ProcessTable empty = new ProcessTable();
        for (int i = 1; i <= 3; i++) {
            Check.due("4: boot", empty.boot(i), 1);
            Check.due("4: boot, ahead of its end", empty.boot(i), Check.STATE);
            Check.due("5: the turn of its end", empty.tick(1), 1);
            Check.due("14: a panic more", empty.count(9), i);
        }
    }

    /** "then nothing changes": of every refused call. */
    private static void refusalsChangeNothing() {
        ProcessTable t = busyTable();
        String before = Check.snapshot(t);
        t.act(-1, 1, 2, 3);
        t.act(16, 1, 2, 3);
        t.wipe(-1);
        t.wipe(16);
        t.boot(-1);
        t.boot(16);
        t.boot(0);
        t.boot(1);
        t.tick(-1);
        t.tick(201);
        t.tick(Check.MAX);
        t.kill(0, 9);
        t.kill(4, 9);
        t.kill(-1, 9);
        t.kill(2, 0);
        t.kill(2, 21);
        t.kill(2, -9);
        t.kill(2, 9 + 32);
        t.entry(24);
        t.told(2, 10);
        t.register(2, 8);
        t.action(2, 21);
        t.child(9, 0);
        t.log(0, 2);
        t.count(10);
        Check.same("a table behind refused calls", Check.snapshot(t), before);
        Check.due("3: the acts are as they were", t.wipe(0), 11);
    }

    /** PID 2 has an alarm, something pending and blocked; there is a line in the log. */
    private static ProcessTable busyTable() {
        Acts acts = new Acts().fork(0, "child").sleep();
        acts.at("child").mask(1, 1 << 15).alarm(2, 150).op(Check.TELL, 2).sleep();
        ProcessTable t = acts.boot(30);
        t.kill(2, 15);
        return t;
    }

    /** "FULL; then nothing changes": neither an act more, nor another one. */
    private static void fullChangesNothing() {
        ProcessTable t = new ProcessTable();
        new Acts().idle(59).set(5, 55).load(t, 0);
        for (int i = 0; i < 3; i++) {
            Check.due("2: act", t.act(0, Check.SET, 5, 66), Check.FULL);
        }
        t.boot(0);
        Check.due("5: turns", t.tick(60), 60);
        Check.due("2: the last act is as it was", t.register(1, 5), 55);
        Check.due("2: there is no act behind it", t.told(1, Check.NEXT), 60);
        t.tick(1);
        Check.due("2: so that it ended", t.count(9), 1);
        Check.due("3: wipe", t.wipe(0), 60);
        Check.due("2: then there is room", t.act(0, 0, 0, 0), 1);
    }

    /** "What is told may be as a refusal is where a REGISTER is", in log() too. */
    private static void toldAsARefusalIs() {
        int[] refusals = {Check.NONE, Check.UNKNOWN, Check.OUTSIDE, Check.STATE, Check.FULL};
        Acts acts = new Acts();
        for (int i = 0; i < refusals.length; i++) {
            acts.set(i, refusals[i]).op(Check.TELL, i);
        }
        ProcessTable t = acts.sleep().boot(2 * refusals.length);
        for (int i = 0; i < refusals.length; i++) {
            Check.due("9: register " + i, t.register(1, i), refusals[i]);
            Check.due("13: log " + i, t.log(refusals.length - 1 - i, 1), refusals[i]);
        }
    }
}
