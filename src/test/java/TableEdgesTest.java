/** 'Terms', block 1: programs, the table, what a process has, new PIDs, boot and panic; at their edges. */
public final class TableEdgesTest {
    public static void main(String[] args) {
        eachProgramIsItsOwn();
        sixtyActsAreDone();
        wipeMakesRoom();
        twentyFourEntries();
        refusedForkGivesNoPid();
        firstFreeEntry();
        numbersFromZero();
        anyIntInARegister();
        bitNForSignalN();
        firstPids();
        freedPidIsNotNext();
        pid999IsGiven();
        behind999ComesTwo();
        pidOfAProcessIsSpared();
        pidOfAZombieIsSpared();
        groupIsSpared();
        groupOfAZombieIsSpared();
        taken999IsSpared();
        bootBeginsAll();
        bootBeginsPidsAnew();
        bootKeepsWhatStays();
        panicByEachEnd();
        panicAmidATick();
        panicStaysTillBoot();
        Check.finish();
    }

    /** "PROGRAMS 0 .. 15 are rows of ACTS". */
    private static void eachProgramIsItsOwn() {
        ProcessTable t = new ProcessTable();
        for (int p = 0; p < 16; p++) {
            Check.due("2: first act of program " + p, t.act(p, Check.SET, 0, 100 + p), 1);
            Check.due("2: second act of program " + p, t.act(p, Check.EXIT, 0, 0), 2);
        }
        for (int p = 0; p < 16; p++) {
            t.boot(p);
            Check.due("4: its program", t.told(1, 3), p);
            t.tick(1);
            Check.due("5: its own act", t.register(1, 0), 100 + p);
            t.tick(1);
        }
        Check.due("3: wipe one", t.wipe(7), 2);
        Check.due("3: the one ahead stays", t.wipe(6), 2);
        Check.due("3: the one behind stays", t.wipe(8), 2);
    }

    /** "60 at most each": the 60th is taken, and done. */
    private static void sixtyActsAreDone() {
        for (int p : new int[] {0, 15}) {
            ProcessTable t = new ProcessTable();
            for (int i = 1; i < 60; i++) {
                Check.due("2: act " + i, t.act(p, Check.IDLE, 0, 0), i);
            }
            Check.due("2: act 60", t.act(p, Check.SET, 3, 33), 60);
            Check.due("2: act 61", t.act(p, Check.SET, 3, 34), Check.FULL);
            t.boot(p);
            t.tick(59);
            Check.due("5: the last act is next", t.told(1, Check.NEXT), 59);
            t.tick(1);
            Check.due("5: it was done", t.register(1, 3), 33);
        }
    }

    /** "PROGRAM p has no ACTS any more": 0 of none, 60 of a full one, and 60 more are taken. */
    private static void wipeMakesRoom() {
        ProcessTable t = new ProcessTable();
        Check.due("3: of none", t.wipe(0), 0);
        new Acts().idle(60).load(t, 0);
        Check.due("3: of a full one", t.wipe(0), 60);
        Check.due("3: of none again", t.wipe(0), 0);
        new Acts().idle(60).load(t, 0);
        Check.due("2: full again", t.act(0, 0, 0, 0), Check.FULL);
    }

    /** PID 1 forks as often as it can; all sleep then. A signal 10 lets PID 1 do what stands at "more". */
    private static Acts full() {
        return new Acts().handle(10, "more").at("fork").op(Check.FORK, 0).below(0, "sleep").zero(0, "sleep")
            .jump("fork").at("sleep").sleep().at("more");
    }

    /** "THE TABLE has 24 ENTRIES": 23 forks are done, the next is refused. */
    private static void twentyFourEntries() {
        ProcessTable t = full().boot(200);
        for (int e = 0; e < 24; e++) {
            Check.due("7: entry " + e, t.entry(e), e + 1);
        }
        Check.due("14: processes", t.count(0), 24);
        Check.due("14: forks done", t.count(4), 23);
        Check.due("14: forks refused", t.count(5), 1);
        Check.due("5: ra of the refused fork", t.register(1, 0), -11);
        Check.due("12: members", t.members(1), 24);
        Check.due("11: the last child", t.child(1, 22), 24);
        Check.due("11: none behind it", t.child(1, 23), 0);
        Check.due("8: the last one's parent", t.told(24, 1), 1);
    }

    /** "THE TABLE is full: ra is -11", and no PID was given by that; a ZOMBIE has its ENTRY still. */
    private static void refusedForkGivesNoPid() {
        ProcessTable t = full().op(Check.FORK, 1).op(Check.FORK, 2).set(3, -1).op(Check.LOOK, 3, 4).op(Check.FORK, 5)
            .zero(5, "sleep").jump("sleep").boot(200);
        t.kill(9, 9);
        t.kill(1, 10);
        t.tick(3);
        Check.due("5: full with a zombie, too", t.register(1, 1), -11);
        Check.due("5: again", t.register(1, 2), -11);
        Check.due("14: three refused", t.count(5), 3);
        t.tick(2);
        Check.due("5: the zombie is looked for", t.register(1, 3), 9);
        t.tick(1);
        Check.due("5: the next PID", t.register(1, 5), 25);
        Check.due("7: in the entry that got free", t.entry(8), 25);
        Check.due("14: no more refused", t.count(5), 3);
        Check.due("14: one more done", t.count(4), 24);
    }

    /** "a new PROCESS in the first free ENTRY": of two that are free; the last one, if it alone is. */
    private static void firstFreeEntry() {
        ProcessTable t = full().set(3, -1).op(Check.LOOK, 3, 4).set(3, -1).op(Check.LOOK, 3, 4).op(Check.FORK, 5)
            .zero(5, "sleep").op(Check.FORK, 5).zero(5, "sleep").jump("sleep").boot(200);
        t.kill(24, 9);
        t.kill(5, 9);
        t.kill(1, 10);
        t.tick(5);
        Check.due("7: entry 4 is free", t.entry(4), 0);
        Check.due("7: entry 23 is free", t.entry(23), 0);
        t.tick(1);
        Check.due("7: the first of them", t.entry(4), 25);
        Check.due("7: not the other", t.entry(23), 0);
        t.tick(10);
        Check.due("7: then the last", t.entry(23), 26);
    }

    /** "What has a number has it from 0 on, but PROCESSES". */
    private static void numbersFromZero() {
        ProcessTable t = new Acts().set(0, 70).op(Check.TELL, 0).fork(1, "end").at("end").sleep().boot(20);
        Check.due("7: entry 0 is the first", t.entry(0), 1);
        Check.due("9: register 0 is the first", t.register(1, 0), 70);
        Check.due("13: log 0 is the first", t.log(0, 1), 70);
        Check.due("11: child 0 is the first", t.child(1, 0), 2);
        Check.due("8: there is no PID 0", t.told(0, 0), Check.UNKNOWN);
        Check.due("8: the first PID is 1", t.told(1, 0), Check.PAUSED);
        ProcessTable first = new Acts().set(0, 5).set(0, 6).boot(0);
        Check.due("8: act 0 is the first", first.told(1, Check.NEXT), 0);
        first.tick(1);
        Check.due("5: it was done", first.register(1, 0), 5);
    }

    /** "8 REGISTERS (ints)". */
    private static void anyIntInARegister() {
        int[] ints = {Check.MIN, Check.MAX, -1, 0, 1, 1 << 30, Check.MIN + 1, Check.MAX - 1};
        Acts acts = new Acts();
        for (int r = 0; r < 8; r++) {
            acts.set(r, ints[r]);
        }
        ProcessTable t = acts.sleep().boot(8);
        for (int r = 0; r < 8; r++) {
            Check.due("9: register " + r, t.register(1, r), ints[r]);
        }
    }

    /** "PENDING and BLOCKED SIGNALS, as bits (bit n for SIGNAL n)". */
    private static void bitNForSignalN() {
        for (int s = 1; s <= 20; s++) {
            if (s != 9 && s != 19) {
                ProcessTable t = new Acts().mask(0, 1 << s).sleep().boot(3);
                Check.due("8: blocked " + s, t.told(1, Check.BLOCKED), 1 << s);
                Check.due("8: not pending yet " + s, t.told(1, Check.PENDING), 0);
                t.kill(1, s);
                Check.due("8: pending " + s, t.told(1, Check.PENDING), 1 << s);
            }
        }
    }

    /** "A new PID is the least number above the one that was given latest (first 1". */
    private static void firstPids() {
        ProcessTable t = new Acts().fork(0, "end").fork(1, "end").fork(2, "end").at("end").sleep().boot(40);
        for (int pid = 1; pid <= 4; pid++) {
            Check.due("5: PID " + pid, t.entry(pid - 1), pid);
        }
    }

    /** PID 1, to whom CHLD does nothing, forks again and again; register 0 is the latest PID. */
    private static Acts forksAgainAndAgain() {
        return new Acts().op(Check.ACTION, 17, 1).at("again").fork(0, "child").jump("again").at("child");
    }

    /** From one FORK to the next there are three turns of PID 1 at least, so that these ticks never go too far. */
    private static void tickUntilForks(ProcessTable t, int forks) {
        int left = forks - t.count(4);
        for (int i = 0; i < 200 && left > 0; i++) {
            t.tick(Math.min(200, Math.max(1, 3 * (left - 1))));
            left = forks - t.count(4);
        }
        Check.due("14: forks of the test yet to come", left, 0);
    }

    /** "above the one that was given latest": a PID that got free is not given again at once. */
    private static void freedPidIsNotNext() {
        ProcessTable t = forksAgainAndAgain().op(Check.EXIT, 1).boot(0);
        for (int pid = 2; pid < 12; pid++) {
            tickUntilForks(t, pid - 1);
            Check.due("5: PID", t.register(1, 0), pid);
            t.tick(3);
            Check.due("5: freed", t.told(pid, 0), Check.UNKNOWN);
        }
    }

    private static void pid999IsGiven() {
        ProcessTable t = forksAgainAndAgain().op(Check.EXIT, 1).boot(0);
        tickUntilForks(t, 997);
        Check.due("5: the last but one", t.register(1, 0), 998);
        tickUntilForks(t, 998);
        Check.due("5: the last", t.register(1, 0), 999);
        Check.due("5: it is a process", t.told(999, 0), Check.READY);
        Check.due("5: no other is", t.told(1000, 0), Check.UNKNOWN);
    }

    /** "behind 999 it goes on with 2". */
    private static void behind999ComesTwo() {
        ProcessTable t = forksAgainAndAgain().op(Check.EXIT, 1).boot(0);
        tickUntilForks(t, 999);
        Check.due("5: behind 999", t.register(1, 0), 2);
        Check.due("5: it is a process", t.told(2, 0), Check.READY);
        tickUntilForks(t, 1000);
        Check.due("5: then", t.register(1, 0), 3);
    }

    /** The child whose PID is in register 5 (set ahead) goes to "that"; the others end. */
    private static Acts butOne(int pid) {
        return new Acts().op(Check.ACTION, 17, 1).set(5, pid).at("again").fork(0, "child").jump("again").at("child")
            .op(Check.OWN, 6).op(Check.LESS, 6, 5).zero(6, "that").op(Check.EXIT, 1).at("that");
    }

    /** "that is no PID .. of any PROCESS in THE TABLE". */
    private static void pidOfAProcessIsSpared() {
        ProcessTable t = butOne(2).sleep().boot(0);
        tickUntilForks(t, 999);
        Check.due("5: PID 2 sleeps", t.told(2, 0), Check.PAUSED);
        Check.due("5: behind 999, as 2 is one", t.register(1, 0), 3);
        ProcessTable third = butOne(3).sleep().boot(0);
        tickUntilForks(third, 999);
        Check.due("5: behind 999, as 3 is one", third.register(1, 0), 2);
        tickUntilForks(third, 1000);
        Check.due("5: behind 2, as 3 is one", third.register(1, 0), 4);
    }

    private static void pidOfAZombieIsSpared() {
        // PID 2 has a child, PID 3, that ends; PID 2 neither waits for it nor does CHLD do nothing to it.
        ProcessTable t = butOne(2).op(Check.ACTION, 17, 0).fork(2, "ends").sleep().at("ends").op(Check.EXIT, 1)
            .boot(0);
        for (int i = 0; i < 40 && t.told(2, 0) != Check.PAUSED; i++) {
            t.tick(1);
        }
        int zombie = t.child(2, 0);
        for (int i = 0; i < 40 && t.told(zombie, 0) != Check.ZOMBIE; i++) {
            t.tick(1);
        }
        Check.due("5: a zombie", t.told(zombie, 0), Check.ZOMBIE);
        // 997 PIDs up to 999 (PID 1 has the first), then all from 3 on but the zombie's.
        tickUntilForks(t, 998 + zombie - 3);
        Check.due("5: ahead of the zombie's", t.register(1, 0), zombie - 1);
        tickUntilForks(t, 998 + zombie - 2);
        Check.due("5: behind the zombie's", t.register(1, 0), zombie + 1);
    }

    /** "and no GROUP of any PROCESS": PID 2 made GROUP 2 for its child, and is no more. */
    private static Acts groupTwo(String childDoes) {
        return butOne(2).op(Check.JOIN, 3, 4).op(Check.ACTION, 17, 0).fork(2, childDoes).op(Check.EXIT, 1)
            .at("sleeps").sleep();
    }

    private static void groupIsSpared() {
        ProcessTable t = groupTwo("sleeps").boot(0);
        tickUntilForks(t, 60);
        Check.due("5: PID 2 is no more", t.told(2, 0), Check.UNKNOWN);
        Check.due("12: a member of group 2", t.members(2), 1);
        tickUntilForks(t, 999);
        Check.due("5: behind 999, as 2 is a group", t.register(1, 0), 3);
    }

    private static void groupOfAZombieIsSpared() {
        // The child of group 2 comes to PID 1 as a zombie, for that is what PID 2 left: nobody waits for it.
        ProcessTable t = butOne(2).op(Check.JOIN, 3, 4).op(Check.ACTION, 17, 0).fork(2, "ends").idle(6)
            .op(Check.EXIT, 1).at("ends").op(Check.EXIT, 1).boot(0);
        tickUntilForks(t, 60);
        Check.due("5: PID 2 is no more", t.told(2, 0), Check.UNKNOWN);
        Check.due("14: one zombie", t.count(1), 1);
        Check.due("12: it is of group 2", t.members(2), 1);
        tickUntilForks(t, 999);
        Check.due("5: behind 999, as 2 is a zombie's group", t.register(1, 0), 3);
    }

    private static void taken999IsSpared() {
        ProcessTable t = butOne(999).sleep().boot(0);
        tickUntilForks(t, 998 + 997);
        Check.due("5: PID 999 sleeps", t.told(999, 0), Check.PAUSED);
        Check.due("5: the second time round", t.register(1, 0), 998);
        tickUntilForks(t, 998 + 998);
        Check.due("5: behind 998, as 999 is one", t.register(1, 0), 2);
    }

    /** PID 1 has all that one may have, forks PID 2, and ends: table behind a panic. */
    private static ProcessTable panicked() {
        Acts acts = new Acts();
        for (int r = 0; r < 6; r++) {
            acts.set(r, 11 + r);
        }
        acts.op(Check.ACTION, 17, 1).op(Check.ACTION, 1, 1).op(Check.ACTION, 20, 1).handle(10, "handler")
            .mask(0, 1 << 3 | 1 << 15).alarm(1, 190).fork(2, "child").op(Check.TELL, 3).sleep()
            .at("handler").op(Check.EXIT, 3).at("child").sleep();
        ProcessTable t = acts.boot(30);
        t.kill(1, 3);
        t.kill(1, 10);
        t.tick(1);
        Check.due("5: a handler is under way", t.told(1, Check.HANDLERS), 1);
        Check.due("5: 3 is pending", t.told(1, Check.PENDING), 1 << 3);
        t.tick(1);
        Check.due("14: panic", t.count(9), 1);
        return t;
    }

    /** "boot() makes PID 1, GROUP 1, of a PROGRAM: all at its beginning, REGISTERS 0, SIGNALS 0." */
    private static void bootBeginsAll() {
        ProcessTable t = panicked();
        Check.due("4: boot", t.boot(9), 1);
        int[] told = {Check.READY, 0, 1, 9, 0, 0, 0, 0, 0, 0};
        for (int what = 0; what < told.length; what++) {
            Check.due("4: told " + what, t.told(1, what), told[what]);
        }
        for (int r = 0; r < 8; r++) {
            Check.due("4: register " + r, t.register(1, r), 0);
        }
        for (int s = 1; s <= 20; s++) {
            Check.due("4: action " + s, t.action(1, s), 0);
        }
        Check.due("7: in entry 0", t.entry(0), 1);
        Check.due("14: alone", t.count(0), 1);
        Check.due("11: no child", t.child(1, 0), 0);
        Check.due("12: its group", t.members(1), 1);
    }

    /** "PIDS begin anew", and so does THE TURN. */
    private static void bootBeginsPidsAnew() {
        ProcessTable t = new Acts().fork(0, "end").fork(0, "end").op(Check.EXIT, 1).at("end").sleep().boot(30);
        Check.due("14: panic", t.count(9), 1);
        t.boot(0);
        t.tick(1);
        Check.due("4: the first fork behind boot", t.register(1, 0), 2);
        Check.due("7: in entry 1", t.entry(1), 2);
    }

    /** "(NOW, THE LOG, counts stay". */
    private static void bootKeepsWhatStays() {
        ProcessTable t = panicked();
        int[] before = new int[10];
        for (int what = 3; what < 10; what++) {
            before[what] = t.count(what);
        }
        t.boot(0);
        for (int what = 3; what < 10; what++) {
            Check.due("14: count " + what + " behind boot", t.count(what), before[what]);
        }
        Check.due("14: NOW", t.count(3), 32);
        Check.due("13: the log's PID", t.log(0, 0), 1);
        Check.due("13: the log's number", t.log(0, 1), 14);
        Check.due("13: no more", t.log(1, 1), Check.NONE);
    }

    /** "When PID 1 ends there is PANIC": by EXIT, the end of a PROGRAM, RETURN. */
    private static void panicByEachEnd() {
        ProcessTable[] tables = {new Acts().op(Check.EXIT, 0).boot(0), new Acts().boot(0),
            new Acts().op(Check.RETURN, 0).boot(0), new Acts().op(Check.JUMP, -1).boot(1),
            new Acts().op(Check.JUMP, 60).boot(1)};
        for (int i = 0; i < tables.length; i++) {
            ProcessTable t = tables[i];
            Check.due("14: no panic yet, " + i, t.count(9), 0);
            Check.due("5: the turn of its end, " + i, t.tick(1), 1);
            Check.due("14: panic " + i, t.count(9), 1);
            Check.due("14: it ended, " + i, t.count(6), 1);
            Check.due("14: free, " + i, t.count(0), 0);
            Check.due("8: no PID 1, " + i, t.told(1, 0), Check.UNKNOWN);
        }
    }

    private static void panicAmidATick() {
        ProcessTable t = new Acts().idle(3).op(Check.EXIT, 0).boot(0);
        Check.due("5: turns ahead of the panic, and its own", t.tick(200), 4);
        Check.due("14: NOW went on", t.count(3), 200);
        Check.due("14: one panic", t.count(9), 1);
    }

    /** "THE TABLE is free, and stays so till boot()": children and alarms are no more. */
    private static void panicStaysTillBoot() {
        ProcessTable t = new Acts().fork(0, "child").fork(0, "child").idle(8).op(Check.EXIT, 0)
            .at("child").alarm(0, 100).op(Check.PAUSE, 1).boot(40);
        Check.due("14: panic", t.count(9), 1);
        for (int e = 0; e < 24; e++) {
            Check.due("7: free", t.entry(e), 0);
        }
        Check.due("5: nobody's turn", t.tick(200), 0);
        Check.due("14: no alarm rang", t.count(7), 0);
        for (int what = 0; what < 3; what++) {
            Check.due("14: none, " + what, t.count(what), 0);
        }
        Check.due("12: no member", t.members(1), 0);
        Check.due("6: nobody to kill", t.kill(1, 9), Check.UNKNOWN);
        Check.due("6: nor the child", t.kill(2, 9), Check.UNKNOWN);
        Check.due("4: boot", t.boot(0), 1);
        Check.due("4: no child came back", t.count(0), 1);
        t.tick(2);
        Check.due("5: its child is a new one", t.told(2, Check.UNTIL_ALARM), 0);
    }
}
