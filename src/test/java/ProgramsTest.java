/** Promises 1 (a new object), 2 (act), 3 (wipe). */
public final class ProgramsTest {
    public static void main(String[] args) {
        newObject();
        actCounts();
        actRefuses();
        wipeEmpties();
        processesGoOnInWhatAProgramIsThen();
        Check.finish();
    }

    private static void newObject() {
        ProcessTable t = new ProcessTable();
        for (int p = 0; p < 16; p++) {
            Check.due("1: acts of a new program " + p, t.wipe(p), 0);
        }
        for (int e = 0; e < 24; e++) {
            Check.due("1: new entry " + e, t.entry(e), 0);
        }
        for (int what = 0; what < 10; what++) {
            Check.due("1: new count " + what, t.count(what), 0);
        }
        Check.due("1: new log", t.log(0, 0), Check.NONE);
        Check.due("1: no PID 1", t.told(1, 0), Check.UNKNOWN);
        Check.due("1: members of group 0, all entries being free", t.members(0), 0);
        Check.due("1: nobody's turn", t.tick(3), 0);
        Check.due("1: NOW goes on without processes", t.count(3), 3);
    }

    private static void actCounts() {
        ProcessTable t = new ProcessTable();
        for (int i = 1; i <= 60; i++) {
            Check.due("2: act " + i, t.act(15, i, -i, i), i);
        }
        Check.due("2: act 61", t.act(15, 0, 0, 0), Check.FULL);
        Check.due("2: FULL changed nothing", t.wipe(15), 60);
        Check.due("2: another program", t.act(0, Check.MAX, Check.MIN, Check.MAX), 1);
    }

    private static void actRefuses() {
        ProcessTable t = new ProcessTable();
        for (int p : new int[] {-1, 16, Check.MIN, Check.MAX}) {
            Check.due("2: act of program " + p, t.act(p, 0, 0, 0), Check.UNKNOWN);
            Check.due("3: wipe of program " + p, t.wipe(p), Check.UNKNOWN);
        }
    }

    private static void wipeEmpties() {
        ProcessTable t = new ProcessTable();
        Check.load(t, 3, Check.SET, 0, 1, Check.SET, 0, 2);
        Check.load(t, 4, Check.SET, 0, 3);
        Check.due("3: wipe", t.wipe(3), 2);
        Check.due("3: wipe again", t.wipe(3), 0);
        Check.due("3: act behind wipe", t.act(3, 0, 0, 0), 1);
        Check.due("3: the other program stays", t.wipe(4), 1);
    }

    private static void processesGoOnInWhatAProgramIsThen() {
        ProcessTable t = Check.booted(Check.SET, 0, 1, Check.SET, 0, 2);
        t.tick(1);
        t.wipe(0);
        Check.load(t, 0, Check.SET, 0, 7, Check.SET, 0, 8);
        t.tick(1);
        Check.due("3: the new act 1 was done", t.register(1, 0), 8);

        ProcessTable gone = Check.booted(Check.IDLE, 0, 0, Check.IDLE, 0, 0);
        gone.tick(1);
        gone.wipe(0);
        Check.due("3: the turn of one without acts", gone.tick(1), 1);
        Check.due("3: it ended", gone.count(9), 1);
    }
}
