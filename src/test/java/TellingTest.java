/** Promises 7 to 14: entry, told, register, action, child, members, log, count. */
public final class TellingTest {
    private static final int[] NO_PIDS = {0, -1, 3, 1000, Check.MIN, Check.MAX};

    public static void main(String[] args) {
        entries();
        toldOfAProcess();
        registers();
        actions();
        children();
        childrenByEntries();
        members();
        logOfForty();
        logRefuses();
        counts();
        askingChangesNothing();
        Check.finish();
    }

    private static void entries() {
        ProcessTable t = Check.withChild();
        Check.due("7: entry 0", t.entry(0), 1);
        Check.due("7: entry 1", t.entry(1), 2);
        Check.due("7: entry 2", t.entry(2), 0);
        Check.due("7: entry 23", t.entry(23), 0);
        for (int e : new int[] {-1, 24, Check.MIN, Check.MAX}) {
            Check.due("7: entry " + e, t.entry(e), Check.UNKNOWN);
        }
    }

    private static void toldOfAProcess() {
        ProcessTable t = Check.withChild(Check.ACTION, 10, 2 + 8, Check.SET, 3, 70, Check.ALARM, 3, 0,
            Check.JOIN, 5, 5);
        t.kill(2, 10);
        t.tick(1);
        t.kill(2, 10);
        int ticks = t.told(2, Check.UNTIL_ALARM);
        int[] want = {Check.READY, 1, 2, 0, 8, 1 << 10, 1 << 10, 1, ticks, 0};
        for (int what = 0; what < 10; what++) {
            Check.due("8: told " + what, t.told(2, what), want[what]);
        }
        t.tick(1);
        Check.due("8: one tick less", t.told(2, Check.UNTIL_ALARM), ticks - 1);
        for (int what : new int[] {-1, 10, Check.MIN, Check.MAX}) {
            Check.due("8: told " + what, t.told(2, what), Check.OUTSIDE);
            Check.due("8: UNKNOWN ahead", t.told(3, what), Check.UNKNOWN);
        }
        for (int pid : NO_PIDS) {
            Check.due("8: told of " + pid, t.told(pid, 0), Check.UNKNOWN);
        }
        Check.due("8: PID 1's parent", t.told(1, 1), 0);
        t.kill(2, 19);
        Check.due("8: stopped", t.told(2, 0), Check.STOPPED);
        Check.due("8: not ended", t.told(2, Check.HOW_ENDED), 0);
    }

    private static void registers() {
        ProcessTable t = Check.booted(Check.SET, 0, 10, Check.SET, 7, -1001);
        t.tick(2);
        Check.due("9: register 0", t.register(1, 0), 10);
        Check.due("9: what is told may be as a refusal is", t.register(1, 7), -1001);
        Check.due("9: register 6", t.register(1, 6), 0);
        for (int r : new int[] {-1, 8, Check.MIN, Check.MAX}) {
            Check.due("9: register " + r, t.register(1, r), Check.OUTSIDE);
            Check.due("9: UNKNOWN ahead", t.register(2, r), Check.UNKNOWN);
        }
        for (int pid : NO_PIDS) {
            Check.due("9: register of " + pid, t.register(pid, 0), Check.UNKNOWN);
        }
    }

    private static void actions() {
        ProcessTable t = Check.booted(Check.ACTION, 1, 1, Check.ACTION, 20, 61, Check.ACTION, 9, 1,
            Check.ACTION, 19, 2);
        t.tick(4);
        Check.due("10: action 1", t.action(1, 1), 1);
        Check.due("10: action 20", t.action(1, 20), 61);
        Check.due("10: action 9", t.action(1, 9), 0);
        Check.due("10: action 19", t.action(1, 19), 0);
        Check.due("10: action 2", t.action(1, 2), 0);
    }

    private static void children() {
        ProcessTable t = Check.booted(Check.FORK, 0, 0, Check.ZERO, 0, 5, Check.FORK, 0, 0, Check.ZERO, 0, 5,
            Check.FORK, 0, 0, Check.PAUSE, 7, 0);
        t.tick(40);
        t.kill(3, 9);
        int[] want = {2, 3, 4, 0};
        for (int i = 0; i < want.length; i++) {
            Check.due("11: child " + i + ", zombies too", t.child(1, i), want[i]);
        }
        Check.due("11: child of PID 2", t.child(2, 0), 0);
        for (int i : new int[] {-1, 24, Check.MIN, Check.MAX}) {
            Check.due("11: child " + i, t.child(1, i), 0);
        }
        for (int pid : new int[] {0, -1, 5, Check.MIN, Check.MAX}) {
            Check.due("11: child of " + pid, t.child(pid, 0), Check.UNKNOWN);
        }
    }

    /** "by ENTRIES": the younger child may be the first. */
    private static void childrenByEntries() {
        ProcessTable t = new Acts().fork(0, "sleep").fork(0, "sleep").set(1, 2).op(Check.WAIT, 1, 2).fork(0, "sleep")
            .at("sleep").sleep().boot(30);
        t.kill(2, 9);
        t.tick(5);
        Check.due("7: PID 4 has the entry of PID 2", t.entry(1), 4);
        Check.due("11: the first child", t.child(1, 0), 4);
        Check.due("11: the second", t.child(1, 1), 3);
        Check.due("11: no third", t.child(1, 2), 0);
    }

    private static void members() {
        ProcessTable t = Check.withChild(Check.JOIN, 3, 3, Check.FORK, 3, 0);
        t.tick(10);
        Check.due("12: group 1", t.members(1), 1);
        Check.due("12: group 2", t.members(2), 2);
        t.kill(3, 9);
        Check.due("12: zombies too", t.members(2), 2);
        for (int group : new int[] {0, -1, 3, Check.MIN, Check.MAX}) {
            Check.due("12: group " + group, t.members(group), 0);
        }
    }

    private static void logOfForty() {
        // Tells 1, 2, 3 ..: each round is three acts.
        ProcessTable t = Check.booted(Check.SET, 1, 1, Check.ADD, 0, 1, Check.TELL, 0, 0, Check.JUMP, 1, 0);
        t.tick(3);
        Check.due("13: one", t.log(0, 1), 1);
        Check.due("13: its PID", t.log(0, 0), 1);
        Check.due("13: no other", t.log(1, 1), Check.NONE);
        t.tick(39 * 3);
        for (int i = 0; i < 40; i++) {
            Check.due("13: latest " + i, t.log(i, 1), 40 - i);
        }
        t.tick(3 * 5);
        for (int i = 0; i < 40; i++) {
            Check.due("13: latest " + i + " of 45", t.log(i, 1), 45 - i);
        }
        Check.due("13: the latest 40 only", t.log(40, 1), Check.NONE);
    }

    private static void logRefuses() {
        ProcessTable t = Check.booted(Check.SET, 0, -1002, Check.TELL, 0, 0);
        t.tick(2);
        Check.due("13: what is told may be as a refusal is", t.log(0, 1), -1002);
        for (int what : new int[] {-1, 2, Check.MIN, Check.MAX}) {
            Check.due("13: what " + what, t.log(0, what), Check.OUTSIDE);
            Check.due("13: OUTSIDE ahead of NONE", t.log(9, what), Check.OUTSIDE);
        }
        for (int i : new int[] {-1, 1, 40, Check.MIN, Check.MAX}) {
            Check.due("13: latest " + i, t.log(i, 0), Check.NONE);
            Check.due("13: latest " + i, t.log(i, 1), Check.NONE);
        }
    }

    private static void counts() {
        ProcessTable t = Check.booted(Check.ACTION, 10, 2 + 4, Check.FORK, 0, 0, Check.FORK, 0, 0, Check.PAUSE, 7, 0,
            Check.PAUSE, 7, 0);
        t.tick(2);
        Check.due("14: ready", t.count(2), 2);
        t.tick(18);
        t.kill(2, 9);
        t.kill(3, 19);
        t.kill(1, 10);
        t.tick(1);
        int[] want = {4, 1, 1, 21, 3, 0, 1, 5, 1, 0};
        for (int what = 0; what < 10; what++) {
            Check.due("14: count " + what, t.count(what), want[what]);
        }
        for (int what : new int[] {-1, 10, Check.MIN, Check.MAX}) {
            Check.due("14: count " + what, t.count(what), Check.OUTSIDE);
        }
    }

    private static void askingChangesNothing() {
        ProcessTable t = Check.withChild();
        int before = fingerprint(t);
        Check.due("8: the same twice", fingerprint(t), before);
    }

    private static int fingerprint(ProcessTable t) {
        int sum = 0;
        for (int i = -1; i < 25; i++) {
            sum = 31 * sum + t.entry(i) + t.count(i) + t.members(i) + t.child(1, i) + t.log(i, 0);
            sum = 31 * sum + t.told(1, i) + t.told(2, i) + t.register(2, i) + t.action(2, i);
        }
        return sum;
    }
}
