/** Promises 4 (boot) and 5 (tick: turns, alarms, the plain ops). */
public final class RunningTest {
    public static void main(String[] args) {
        bootBegins();
        bootRefuses();
        bootBeginsAnewBehindPanic();
        tickBounds();
        turnsGoRound();
        turnBeginsAnewBehindBoot();
        plainOps();
        registersAreModulo8();
        jumps();
        opsThatAreNotTold();
        programsEnd();
        alarms();
        alarmsThatAreFar();
        alarmIsReplaced();
        alarmComesAheadOfTheTurn();
        signalsOfATurnAreDoneInIt();
        exampleOfTheReadme();
        Check.finish();
    }

    private static void bootBegins() {
        ProcessTable t = new ProcessTable();
        Check.due("4: boot", t.boot(5), 1);
        Check.due("4: entry", t.entry(0), 1);
        int[] told = {Check.READY, 0, 1, 5, 0, 0, 0, 0, 0, 0};
        for (int what = 0; what < told.length; what++) {
            Check.due("4: told " + what, t.told(1, what), told[what]);
        }
        for (int r = 0; r < 8; r++) {
            Check.due("4: register " + r, t.register(1, r), 0);
        }
        for (int s = 1; s <= 20; s++) {
            Check.due("4: action " + s, t.action(1, s), 0);
        }
    }

    private static void bootRefuses() {
        ProcessTable t = new ProcessTable();
        Check.due("4: boot(-1)", t.boot(-1), Check.UNKNOWN);
        Check.due("4: boot(16)", t.boot(16), Check.UNKNOWN);
        t.boot(15);
        Check.due("4: boot again", t.boot(3), Check.STATE);
        Check.due("4: UNKNOWN ahead of STATE", t.boot(16), Check.UNKNOWN);
        Check.due("4: a refusal changes nothing", t.told(1, 3), 15);
    }

    private static void bootBeginsAnewBehindPanic() {
        ProcessTable t = Check.booted(
            Check.SET, 0, 5, Check.TELL, 0, 0, Check.ACTION, 17, 1, Check.ACTION, 20, 1, Check.MASK, 0, 0,
            Check.ALARM, 0, 0, Check.SET, 0, 6, Check.SET, 7, 7, Check.FORK, 1, 0, Check.ZERO, 1, 11,
            Check.EXIT, 1, 0, Check.PAUSE, 0, 0);
        t.tick(20);
        Check.due("4: panic", t.count(9), 1);
        Check.due("4: the table is free", t.count(0), 0);
        Check.due("4: nobody's turn", t.tick(2), 0);
        Check.due("4: no PID 2", t.told(2, 0), Check.UNKNOWN);
        Check.due("4: boot", t.boot(0), 1);
        Check.due("4: NOW stays", t.count(3), 22);
        Check.due("4: the log stays", t.log(0, 1), 5);
        Check.due("4: counts stay", t.count(4), 1);
        Check.due("4: one process", t.count(0), 1);
        for (int r = 0; r < 8; r++) {
            Check.due("4: register at its beginning", t.register(1, r), 0);
        }
        Check.due("4: action at its beginning", t.action(1, 17), 0);
        Check.due("4: the last action at its beginning", t.action(1, 20), 0);
        Check.due("4: blocked at its beginning", t.told(1, Check.BLOCKED), 0);
        Check.due("4: alarm at its beginning", t.told(1, Check.UNTIL_ALARM), 0);
        t.tick(9);
        Check.due("4: PIDS begin anew", t.register(1, 1), 2);
    }

    private static void tickBounds() {
        ProcessTable t = Check.booted(Check.JUMP, 0, 0);
        Check.due("5: tick(-1)", t.tick(-1), Check.OUTSIDE);
        Check.due("5: tick(201)", t.tick(201), Check.OUTSIDE);
        Check.due("5: tick(MIN)", t.tick(Check.MIN), Check.OUTSIDE);
        Check.due("5: a refusal changes nothing", t.count(3), 0);
        Check.due("5: tick(0)", t.tick(0), 0);
        Check.due("5: tick(200)", t.tick(200), 200);
        Check.due("5: NOW", t.count(3), 200);
    }

    private static void turnsGoRound() {
        // All three tell their PID again and again, each TELL one turn.
        ProcessTable t = Check.booted(Check.FORK, 0, 0, Check.FORK, 1, 0, Check.OWN, 2, 0, Check.TELL, 2, 0,
            Check.JUMP, 3, 0);
        t.tick(200);
        int[] turns = new int[5];
        for (int i = 0; i < 40; i++) {
            int pid = t.log(i, 0);
            Check.due("5: the number that was told", t.log(i, 1), pid);
            turns[pid]++;
        }
        for (int pid = 1; pid <= 4; pid++) {
            Check.due("5: turns of PID " + pid, turns[pid], 10);
        }

        ProcessTable two = Check.booted(Check.FORK, 0, 0, Check.TELL, 0, 0, Check.TELL, 0, 0);
        two.tick(1);
        two.tick(1);
        Check.due("5: the turn goes to the entry behind", two.log(0, 0), 2);
        two.tick(1);
        Check.due("5: and round", two.log(0, 0), 1);
    }

    private static void turnBeginsAnewBehindBoot() {
        // PID 1 ends and leaves a child: behind boot() the turn is with entry 0 again.
        ProcessTable t = Check.booted(Check.FORK, 0, 0, Check.ZERO, 0, 3, Check.EXIT, 0, 0, Check.PAUSE, 0, 0);
        t.tick(10);
        Check.due("5: panic", t.count(9), 1);
        t.boot(0);
        Check.due("5: turn of PID 1", t.tick(1), 1);
        Check.due("5: it forked", t.count(0), 2);
        t.tick(1);
        Check.due("5: then the child's turn", t.told(2, Check.NEXT), 3);
        Check.due("5: not the parent's", t.told(1, Check.NEXT), 1);
    }

    private static void plainOps() {
        ProcessTable t = Check.booted(Check.SET, 0, 5, Check.SET, 1, -3, Check.MOVE, 2, 1, Check.ADD, 0, 1,
            Check.LESS, 2, 0, Check.SET, 3, Check.MAX, Check.SET, 4, 1, Check.ADD, 3, 4, Check.MOVE, 5, 3,
            Check.LESS, 3, 4, Check.TELL, 2, 0);
        t.tick(5);
        Check.due("5: ADD", t.register(1, 0), 2);
        Check.due("5: SET", t.register(1, 1), -3);
        Check.due("5: MOVE, LESS", t.register(1, 2), -5);
        t.tick(5);
        Check.due("5: ADD wraps", t.register(1, 5), Check.MIN);
        Check.due("5: LESS wraps", t.register(1, 3), Check.MAX);
        t.tick(1);
        Check.due("5: TELL, the PID", t.log(0, 0), 1);
        Check.due("5: TELL, the number", t.log(0, 1), -5);
    }

    private static void registersAreModulo8() {
        ProcessTable t = Check.booted(Check.SET, 9, 7, Check.SET, -1, 4, Check.MOVE, Check.MIN + 2, 15,
            Check.SET, Check.MAX - 1, 6, Check.ADD, -8, -7);
        t.tick(5);
        int[] want = {7, 7, 4, 0, 0, 0, 6, 4};
        for (int r = 0; r < 8; r++) {
            Check.due("5: register " + r, t.register(1, r), want[r]);
        }
    }

    private static void jumps() {
        ProcessTable t = Check.booted(Check.JUMP, 2, 0, Check.SET, 0, 1, Check.ZERO, 0, 4, Check.SET, 0, 2,
            Check.BELOW, 0, 50, Check.SET, 1, 1, Check.ZERO, 1, 50, Check.BELOW, 1, 50, Check.SET, 2, -1,
            Check.BELOW, 2, 0);
        int[] nexts = {2, 4, 5, 6, 7, 8, 9, 0};
        for (int next : nexts) {
            t.tick(1);
            Check.due("5: next act", t.told(1, Check.NEXT), next);
        }
    }

    private static void opsThatAreNotTold() {
        int[] ops = {24, -1, Check.MAX, Check.MIN, 99};
        ProcessTable t = new ProcessTable();
        for (int op : ops) {
            t.act(0, op, 1, 1);
        }
        t.boot(0);
        for (int i = 1; i <= ops.length; i++) {
            Check.due("5: turn", t.tick(1), 1);
            Check.due("5: next act", t.told(1, Check.NEXT), i);
            Check.due("5: register", t.register(1, 1), 0);
        }
    }

    private static void programsEnd() {
        for (int to : new int[] {-1, 4, 60, Check.MAX, Check.MIN}) {
            // The child jumps to where no act is; PID 1 pauses at act 2.
            ProcessTable t = Check.booted(Check.FORK, 0, 0, Check.ZERO, 0, 3, Check.PAUSE, 0, 0, Check.JUMP, to, 0);
            t.tick(5);
            Check.due("5: next act", t.told(2, Check.NEXT), to);
            Check.due("5: the turn of the end", t.tick(1), 1);
            Check.due("5: ended", t.told(2, 0), Check.ZOMBIE);
            Check.due("5: status", t.told(2, Check.HOW_ENDED), 0);
            Check.due("5: nobody ready", t.tick(4), 0);
        }
    }

    private static void alarms() {
        ProcessTable t = Check.withChild(Check.SET, 0, 10, Check.ALARM, 0, 0);
        int left = t.told(2, Check.UNTIL_ALARM);
        Check.due("5: an alarm under way", left > 0 ? 1 : 0, 1);
        Check.due("5: no turns till then", t.tick(left - 1), 0);
        Check.due("5: one tick left", t.told(2, Check.UNTIL_ALARM), 1);
        Check.due("5: still paused", t.told(2, 0), Check.PAUSED);
        t.tick(1);
        Check.due("5: ended", t.told(2, 0), Check.ZOMBIE);
        Check.due("5: by ALRM", t.told(2, Check.HOW_ENDED), 14);
        Check.due("5: alarm over", t.told(2, Check.UNTIL_ALARM), 0);
        Check.due("5: ALRM, then CHLD", t.count(7), 2);
    }

    private static void alarmsThatAreFar() {
        ProcessTable t = Check.booted(Check.SET, 0, Check.MAX, Check.ALARM, 0, 0, Check.SET, 1, -1, Check.ALARM, 1, 0,
            Check.SET, 2, 0, Check.ALARM, 2, 0, Check.PAUSE, 0, 0);
        t.tick(2);
        Check.due("5: the farthest alarm", t.told(1, Check.UNTIL_ALARM), Check.MAX);
        t.tick(2);
        Check.due("5: what it had yet", t.register(1, 1), Check.MAX - 2);
        Check.due("5: below 0 is none", t.told(1, Check.UNTIL_ALARM), 0);
        t.tick(2);
        Check.due("5: without one", t.register(1, 2), 0);
    }

    private static void alarmIsReplaced() {
        ProcessTable t = Check.booted(Check.SET, 0, 5, Check.ALARM, 0, 0, Check.SET, 1, 9, Check.ALARM, 1, 0,
            Check.SET, 2, 0, Check.ALARM, 2, 0, Check.PAUSE, 0, 0);
        t.tick(4);
        Check.due("5: the new one", t.told(1, Check.UNTIL_ALARM), 9);
        Check.due("5: what the old one had", t.register(1, 1), 3);
        t.tick(2);
        Check.due("5: 0 takes it away", t.told(1, Check.UNTIL_ALARM), 0);
        Check.due("5: what it had", t.register(1, 2), 7);
        t.tick(20);
        Check.due("5: no ALRM was sent", t.count(7), 0);
        Check.due("5: none is under way", t.told(1, Check.UNTIL_ALARM), 0);
    }

    private static void alarmComesAheadOfTheTurn() {
        ProcessTable t = Check.booted(Check.ACTION, 14, 2 + 5, Check.SET, 0, 1, Check.ALARM, 0, 0, Check.IDLE, 0, 0,
            Check.JUMP, 3, 0, Check.RETURN, 0, 0);
        t.tick(3);
        t.tick(1);
        Check.due("5: the handler began in the tick that was due", t.told(1, Check.HANDLERS), 1);
        Check.due("5: its act is next", t.told(1, Check.NEXT), 5);
        Check.due("5: the alarm is over", t.told(1, Check.UNTIL_ALARM), 0);
        t.tick(1);
        Check.due("5: RETURN", t.told(1, Check.NEXT), 3);
        Check.due("5: the alarm stays over", t.told(1, Check.UNTIL_ALARM), 0);
    }

    private static void signalsOfATurnAreDoneInIt() {
        // PID 2 is killed by the last act of tick().
        ProcessTable t = Check.booted(Check.FORK, 0, 0, Check.ZERO, 0, 5, Check.SET, 1, 9, Check.KILL, 0, 1,
            Check.PAUSE, 7, 0, Check.PAUSE, 6, 0);
        t.tick(1);
        for (int i = 0; i < 20 && t.told(1, Check.NEXT) < 4; i++) {
            Check.due("5: PID 2 lives", t.told(2, Check.HOW_ENDED), 0);
            t.tick(1);
        }
        Check.due("5: PID 2 ended in the tick of KILL", t.told(2, Check.HOW_ENDED), 9);
    }

    /** README.md shows these very calls, so that what it says of them stays true. */
    private static void exampleOfTheReadme() {
        ProcessTable t = new ProcessTable();
        t.act(0, 8, 0, 0);
        t.act(0, 5, 0, 4);
        t.act(0, 11, 1, 2);
        t.act(0, 17, 7, 0);
        t.act(0, 0, 3, 7);
        t.act(0, 10, 3, 0);
        Check.due("README: boot", t.boot(0), 1);
        Check.due("README: tick", t.tick(20), 8);
        Check.due("README: register", t.register(1, 2), 1792);
    }
}
