/** 'Terms', block 3: NOW, alarms, the turn, handlers that begin, the end of a program; at their edges. */
public final class TurnEdgesTest {
    public static void main(String[] args) {
        nowIsOneMore();
        ticksFromZeroTo200();
        ticksOf512Calls();
        alarmOfOneTick();
        alarmIsOverOnce();
        alarmsRingByEntries();
        alarmRingsInEachState();
        alarmAheadOfTheTurn();
        turnRoundToItself();
        turnRoundBehindEntry23();
        turnBehindOneThatIsNoMore();
        turnStaysWhileNobodyIsReady();
        turnPassesThoseThatAreNotReady();
        turnBehindBoot();
        handlerTakesTheTurn();
        leastThatIsNotBlocked();
        handlerAtActZero();
        handlerOfNoAct();
        fourUnderWay();
        fifthEndsBySignal11();
        fifthSignalMayWait();
        behindTheLastAct();
        belowActZero();
        endOfAWipedProgram();
        anActMoreAheadOfTheEnd();
        Check.finish();
    }

    private static Acts child() {
        return new Acts().fork(0, "child").sleep().at("child");
    }

    /** "NOW (0 at first) is 1 more", with and without PROCESSES. */
    private static void nowIsOneMore() {
        ProcessTable t = new ProcessTable();
        Check.due("14: NOW at first", t.count(3), 0);
        for (int i = 1; i <= 3; i++) {
            t.tick(1);
            Check.due("14: NOW without processes", t.count(3), i);
        }
        t.boot(0);
        Check.due("14: boot is no tick", t.count(3), 3);
        t.tick(1);
        Check.due("14: NOW in a panic", t.count(3), 4);
    }

    /** "n TICKS (0 .. 200)". */
    private static void ticksFromZeroTo200() {
        ProcessTable t = new Acts().op(Check.JUMP, 0).boot(0);
        Check.due("5: tick(0)", t.tick(0), 0);
        Check.due("14: no tick", t.count(3), 0);
        Check.due("5: tick(1)", t.tick(1), 1);
        Check.due("5: tick(200)", t.tick(200), 200);
        Check.due("14: NOW", t.count(3), 201);
        Check.due("5: tick(201)", t.tick(201), Check.OUTSIDE);
        Check.due("5: tick(-1)", t.tick(-1), Check.OUTSIDE);
        Check.due("14: NOW stays", t.count(3), 201);
    }

    /** "at most 512 calls after it has been made": the last of them answers as the first. */
    private static void ticksOf512Calls() {
        ProcessTable t = new ProcessTable();
        new Acts().alarm(0, 100000).at("loop").jump("loop").load(t, 0);
        t.boot(0);
        for (int i = 0; i < 500; i++) {
            Check.due("5: tick(200)", t.tick(200), 200);
        }
        Check.due("14: NOW", t.count(3), 100000);
        Check.due("8: the alarm of tick 2", t.told(1, Check.UNTIL_ALARM), 2);
        Check.due("5: tick(1)", t.tick(1), 1);
        Check.due("14: not yet", t.count(7), 0);
        Check.due("5: tick(1)", t.tick(1), 1);
        Check.due("14: it rang", t.count(7), 1);
        Check.due("14: NOW", t.count(3), 100002);
    }

    /** "ALARMS that are due (NOW is theirs)": the one of 1 TICK in the next one. */
    private static void alarmOfOneTick() {
        ProcessTable t = new Acts().alarm(0, 1).sleep().boot(2);
        Check.due("8: one tick", t.told(1, Check.UNTIL_ALARM), 1);
        Check.due("14: not yet", t.count(7), 0);
        t.tick(1);
        Check.due("14: in the next", t.count(7), 1);
        Check.due("8: over", t.told(1, Check.UNTIL_ALARM), 0);

        ProcessTable two = new Acts().alarm(0, 2).sleep().boot(3);
        Check.due("14: of 2, not in the next", two.count(7), 0);
        two.tick(1);
        Check.due("14: of 2, in the one behind", two.count(7), 1);
    }

    private static void alarmIsOverOnce() {
        ProcessTable t = new Acts().alarm(0, 5).sleep().boot(200);
        t.tick(200);
        Check.due("14: ALRM once", t.count(7), 1);
    }

    /** 1 > 2 > 3; both 2 and 3 have an alarm, 3 by so many ticks more. */
    private static ProcessTable twoAlarms(int lateness) {
        return new Acts().fork(0, "second").sleep().at("second").op(Check.ACTION, 17, 1).fork(0, "third")
            .alarm(1, 100).sleep().at("third").alarm(1, 100 + lateness).sleep().boot(40);
    }

    /**
     * "14 is SENT to theirs, by ENTRIES": PID 2 ends first, so that 3, its child, is PID 1's then and becomes a zombie.
     * The other way round 3 were freed, as CHLD does nothing to PID 2.
     */
    private static void alarmsRingByEntries() {
        ProcessTable first = twoAlarms(0);
        ProcessTable t = twoAlarms(first.told(2, Check.UNTIL_ALARM) - first.told(3, Check.UNTIL_ALARM));
        int left = t.told(2, Check.UNTIL_ALARM);
        Check.due("8: both are due together", t.told(3, Check.UNTIL_ALARM), left);
        t.tick(left - 1);
        Check.due("14: none ended yet", t.count(6), 0);
        t.tick(1);
        Check.due("14: both ended", t.count(6), 2);
        Check.due("14: both are zombies", t.count(1), 2);
        Check.due("8: PID 3 is PID 1's", t.told(3, 1), 1);
        Check.due("8: PID 3 ended by ALRM", t.told(3, Check.HOW_ENDED), 14);
        Check.due("14: 2 ALRM, 2 CHLD", t.count(7), 4);
    }

    private static void alarmRingsInEachState() {
        ProcessTable stopped = child().alarm(1, 60).sleep().boot(20);
        stopped.kill(2, 19);
        stopped.tick(60);
        Check.due("5: a stopped one ends", stopped.told(2, Check.HOW_ENDED), 14);

        ProcessTable blocked = child().mask(2, 1 << 14).alarm(1, 60).sleep().boot(80);
        Check.due("5: blocked, it is pending", blocked.told(2, Check.PENDING), 1 << 14);
        Check.due("5: and over", blocked.told(2, Check.UNTIL_ALARM), 0);

        ProcessTable ended = child().alarm(1, 60).sleep().boot(20);
        ended.kill(2, 9);
        Check.due("8: a zombie has none", ended.told(2, Check.UNTIL_ALARM), 0);
        ended.tick(100);
        Check.due("14: none rang", ended.count(7), 2);
    }

    /** "Then THE TURN": whoever ended by an alarm has it no more, whoever was woken by one may have it. */
    private static void alarmAheadOfTheTurn() {
        ProcessTable t = child().alarm(1, 10).at("loop").jump("loop").boot(0);
        for (int i = 0; i < 30 && t.told(2, Check.UNTIL_ALARM) != 1; i++) {
            t.tick(1);
        }
        Check.due("5: nobody is left for the turn", t.tick(1), 0);
        Check.due("5: it ended", t.told(2, Check.HOW_ENDED), 14);

        ProcessTable woken = child().handle(14, "loop").alarm(1, 10).at("pause").op(Check.PAUSE, 2).at("loop")
            .jump("loop").boot(10);
        int left = woken.told(2, Check.UNTIL_ALARM);
        Check.due("5: nobody's turn till then", woken.tick(left - 1), 0);
        Check.due("5: its turn in that tick", woken.tick(1), 1);
        Check.due("14: its handler began", woken.count(8), 1);
    }

    /** "round to that itself": alone, it has every turn. */
    private static void turnRoundToItself() {
        ProcessTable t = new Acts().idle(3).op(Check.JUMP, 0).boot(0);
        for (int i = 1; i <= 4; i++) {
            Check.due("5: its turn", t.tick(1), 1);
            Check.due("5: one act a tick", t.told(1, Check.NEXT), i % 4);
        }
        // In the last entry, too, when that had it latest.
        Acts acts = new Acts().handle(10, "go").at("fork").op(Check.FORK, 0).below(0, "sleep").zero(0, "sleep")
            .jump("fork").at("sleep").sleep().at("go").idle(1).jump("go");
        ProcessTable full = acts.boot(200);
        full.kill(24, 10);
        Check.due("5: all turns are PID 24's", full.tick(100), 100);
        Check.due("14: its handler alone began", full.count(8), 1);
    }

    /** Every process of a full table goes round in two acts, so that its next ACT tells whether it had a turn. */
    private static void turnRoundBehindEntry23() {
        ProcessTable t = new Acts().at("fork").op(Check.FORK, 0).below(0, "loop").zero(0, "loop").jump("fork")
            .at("loop").idle(1).jump("loop").boot(0);
        for (int i = 0; i < 10; i++) {
            t.tick(200);
        }
        Check.due("14: full", t.count(0), 24);
        Check.due("14: all ready", t.count(2), 24);
        int last = t.told(24, Check.NEXT);
        for (int i = 0; i < 24 && t.told(24, Check.NEXT) == last; i++) {
            t.tick(1);
        }
        for (int i = 0; i < 50; i++) {
            int pid = i % 24 + 1;
            int before = t.told(pid, Check.NEXT);
            Check.due("5: a turn", t.tick(1), 1);
            Check.due("5: it was PID " + pid + "'s", t.told(pid, Check.NEXT), 9 - before);
        }
    }

    /** "behind the ENTRY that had it latest": also if that is a zombie's or free now. */
    private static void turnBehindOneThatIsNoMore() {
        for (int does = 0; does <= 1; does++) {
            Acts acts = new Acts().op(Check.ACTION, 17, does).fork(0, "second").fork(0, "third").handle(10, "loop")
                .at("sleep").sleep().at("second").handle(10, "exit").jump("sleep").at("exit").op(Check.EXIT, 1)
                .at("third").handle(10, "loop").jump("sleep").at("loop").idle(1).jump("loop");
            ProcessTable t = acts.boot(60);
            Check.due("14: all sleep", t.count(2), 0);
            t.kill(2, 10);
            t.tick(2);
            Check.due("14: PID 2 ended", t.count(6), 1);
            Check.due("7: its entry", t.entry(1), does == 1 ? 0 : 2);
            t.kill(1, 10);
            t.kill(3, 10);
            t.tick(1);
            Check.due("5: the turn is PID 3's", t.told(3, Check.HANDLERS), 1);
            Check.due("5: not PID 1's", t.told(1, Check.HANDLERS), 0);
            t.tick(1);
            Check.due("5: then PID 1's", t.told(1, Check.HANDLERS), 1);
        }
    }

    private static ProcessTable threeThatHandle10() {
        return new Acts().handle(10, "handler").fork(0, "sleep").fork(0, "sleep").at("sleep").sleep()
            .at("handler").op(Check.RETURN, 0).boot(60);
    }

    private static void turnStaysWhileNobodyIsReady() {
        ProcessTable t = threeThatHandle10();
        t.kill(2, 10);
        t.tick(100);
        Check.due("14: all sleep", t.count(2), 0);
        for (int pid : new int[] {1, 2, 3}) {
            t.kill(pid, 10);
        }
        int[] order = {3, 1, 2};
        for (int i = 0; i < order.length; i++) {
            t.tick(1);
            Check.due("5: a handler began", t.count(8), 2 + i);
            Check.due("5: the turn of PID " + order[i], t.told(order[i], Check.PENDING), 0);
        }
    }

    /** "the first READY PROCESS": WAITING, PAUSED, STOPPED ones and ZOMBIES have no turn. */
    private static void turnPassesThoseThatAreNotReady() {
        // PID 1 waits, 2 pauses, 3 is stopped, 4 is a zombie, 5 goes round.
        ProcessTable t = new Acts().fork(0, "pause").fork(0, "pause").fork(0, "pause").fork(0, "loop")
            .set(1, 2).op(Check.WAIT, 1, 2).at("pause").sleep().at("loop").idle(1).jump("loop").boot(80);
        t.kill(3, 20);
        t.kill(4, 9);
        t.tick(2);
        int[] states = {Check.WAITING, Check.PAUSED, Check.STOPPED, Check.ZOMBIE, Check.READY};
        int[] next = new int[states.length];
        for (int i = 0; i < states.length; i++) {
            Check.due("8: state of PID " + (i + 1), t.told(i + 1, 0), states[i]);
            next[i] = t.told(i + 1, Check.NEXT);
        }
        Check.due("14: one is ready", t.count(2), 1);
        Check.due("5: all turns are its", t.tick(101), 101);
        for (int i = 0; i < 4; i++) {
            Check.due("5: no turn of PID " + (i + 1), t.told(i + 1, Check.NEXT), next[i]);
        }
        Check.due("5: an odd number of turns of PID 5", t.told(5, Check.NEXT) != next[4] ? 1 : 0, 1);
    }

    /** "(ENTRY 23 at first and behind boot())": ENTRY 0 is next, whoever had it latest. */
    private static void turnBehindBoot() {
        ProcessTable t = new Acts().fork(0, "child").idle(2).op(Check.EXIT, 1).at("child").idle(3).sleep().boot(8);
        Check.due("14: no panic yet", t.count(9), 0);
        t.tick(1);
        Check.due("14: panic in PID 1's turn", t.count(9), 1);
        t.boot(0);
        t.tick(1);
        Check.due("5: PID 1 forked", t.count(0), 2);
        t.tick(1);
        Check.due("5: then PID 2's turn", t.told(2, Check.NEXT) != 1 ? 1 : 0, 1);
        Check.due("5: not PID 1's again", t.told(1, Check.NEXT), 1);
    }

    /** "its HANDLER begins: .. else it does its next ACT": a turn is one or the other. */
    private static void handlerTakesTheTurn() {
        Acts acts = child().mask(1, 1 << 3).handle(10, "handler").sleep().at("handler").set(5, 55).op(Check.RETURN, 0);
        ProcessTable t = acts.boot(20);
        t.kill(2, 10);
        int next = t.told(2, Check.NEXT);
        Check.due("5: a turn", t.tick(1), 1);
        Check.due("5: no act was done", t.register(2, 5), 0);
        Check.due("8: its act is next", t.told(2, Check.NEXT), acts.number("handler"));
        Check.due("8: PENDING no more", t.told(2, Check.PENDING), 0);
        Check.due("8: BLOCKED, too", t.told(2, Check.BLOCKED), 1 << 3 | 1 << 10);
        Check.due("8: under way", t.told(2, Check.HANDLERS), 1);
        t.tick(2);
        Check.due("5: it was done", t.register(2, 5), 55);
        Check.due("8: the next act as kept", t.told(2, Check.NEXT), next);
        Check.due("8: BLOCKED as kept", t.told(2, Check.BLOCKED), 1 << 3);
        Check.due("8: none under way", t.told(2, Check.HANDLERS), 0);
    }

    /** "if one that is not BLOCKED is PENDING (the least SIGNAL)". */
    private static void leastThatIsNotBlocked() {
        Acts acts = child().mask(1, 1 << 2).handle(1, "one").handle(2, "two").handle(20, "twenty").sleep()
            .at("one").idle(1).at("two").idle(1).at("twenty").idle(1);
        ProcessTable t = acts.boot(20);
        t.kill(2, 20);
        t.kill(2, 2);
        t.tick(1);
        Check.due("5: 2 is blocked, so 20 begins", t.told(2, Check.NEXT), acts.number("twenty"));
        Check.due("8: 2 is pending still", t.told(2, Check.PENDING), 1 << 2);

        ProcessTable least = acts.boot(20);
        least.kill(2, 20);
        least.kill(2, 1);
        least.tick(1);
        Check.due("5: 1 begins", least.told(2, Check.NEXT), acts.number("one"));
        Check.due("8: 20 is pending still", least.told(2, Check.PENDING), 1 << 20);
        least.tick(1);
        Check.due("5: then 20, in the handler of 1", least.told(2, Check.NEXT), acts.number("twenty"));
        Check.due("8: two under way", least.told(2, Check.HANDLERS), 2);
    }

    /** "2 + i a HANDLER that begins at ACT i": i is 0. */
    private static void handlerAtActZero() {
        ProcessTable t = new Acts().at("zero").op(Check.ACTION, 10, 2).sleep().boot(5);
        Check.due("10: action", t.action(1, 10), 2);
        t.kill(1, 10);
        t.tick(1);
        Check.due("8: act 0 is next", t.told(1, Check.NEXT), 0);
        Check.due("8: a handler is under way", t.told(1, Check.HANDLERS), 1);
    }

    private static void handlerOfNoAct() {
        ProcessTable t = child().op(Check.ACTION, 10, 2 + 59).sleep().boot(20);
        t.kill(2, 10);
        t.tick(1);
        Check.due("8: act 59 is next", t.told(2, Check.NEXT), 59);
        t.tick(1);
        Check.due("5: there is none: it ended", t.told(2, 0), Check.ZOMBIE);
        Check.due("8: with status 0", t.told(2, Check.HOW_ENDED), 0);
    }

    /** PID 2 handles 1 to 6 by idling and returning. */
    private static ProcessTable sixHandlers() {
        Acts acts = child();
        for (int s = 1; s <= 6; s++) {
            acts.handle(s, "handler");
        }
        return acts.sleep().at("handler").idle(1).op(Check.RETURN, 0).boot(30);
    }

    /** "up to 4 HANDLERS under way". */
    private static void fourUnderWay() {
        ProcessTable t = sixHandlers();
        for (int s = 1; s <= 4; s++) {
            t.kill(2, s);
            t.tick(1);
            Check.due("8: under way", t.told(2, Check.HANDLERS), s);
            Check.due("8: it lives", t.told(2, 0), Check.READY);
        }
        for (int left = 3; left >= 0; left--) {
            t.tick(2);
            Check.due("8: under way behind RETURN", t.told(2, Check.HANDLERS), left);
            Check.due("8: blocked behind RETURN", t.told(2, Check.BLOCKED), (1 << left + 1) - 2);
        }
        Check.due("14: four began", t.count(8), 4);
    }

    /** "(with 4 under way already the PROCESS ENDS by SIGNAL 11 instead)". */
    private static void fifthEndsBySignal11() {
        ProcessTable t = sixHandlers();
        for (int s = 1; s <= 4; s++) {
            t.kill(2, s);
            t.tick(1);
        }
        t.kill(2, 6);
        Check.due("8: it lives till its turn", t.told(2, 0), Check.READY);
        int sent = t.count(7);
        Check.due("5: a turn", t.tick(1), 1);
        Check.due("8: ended by SIGNAL 11", t.told(2, Check.HOW_ENDED), 11);
        Check.due("14: the fifth did not begin", t.count(8), 4);
        Check.due("14: 11 was not SENT, CHLD was", t.count(7), sent + 1);
    }

    private static void fifthSignalMayWait() {
        // One that is blocked, as its handler is under way, begins when that is over: never a fifth.
        ProcessTable t = sixHandlers();
        for (int s = 1; s <= 4; s++) {
            t.kill(2, s);
            t.tick(1);
        }
        t.kill(2, 4);
        t.tick(2);
        Check.due("8: it lives", t.told(2, Check.HANDLERS), 3);
        t.tick(1);
        Check.due("8: again four", t.told(2, Check.HANDLERS), 4);
        Check.due("14: five began in all", t.count(8), 5);
    }

    /** "If there is no such ACT (behind the last one": it ENDS in that turn, not ahead of it. */
    private static void behindTheLastAct() {
        Acts acts = child().idle(1);
        ProcessTable t = acts.boot(0);
        int size = acts.number("child") + 1;
        for (int i = 0; i < 10 && t.told(2, Check.NEXT) != size; i++) {
            t.tick(1);
        }
        Check.due("8: behind the last act it lives", t.told(2, 0), Check.READY);
        t.tick(5);
        Check.due("8: it ended", t.told(2, 0), Check.ZOMBIE);
        Check.due("8: with status 0", t.told(2, Check.HOW_ENDED), 0);
        Check.due("14: CHLD was SENT", t.count(7), 1);
        for (int to : new int[] {size, size + 1, 59, 60, 61, Check.MAX}) {
            endsAt(to);
        }
    }

    private static void endsAt(int to) {
        ProcessTable t = child().op(Check.JUMP, to).boot(10);
        Check.due("8: ended at act " + to, t.told(2, 0), Check.ZOMBIE);
        Check.due("8: with status 0", t.told(2, Check.HOW_ENDED), 0);
        Check.due("8: its next act", t.told(2, Check.NEXT), to);
    }

    /** "below 0)". */
    private static void belowActZero() {
        for (int to : new int[] {-1, -2, -60, Check.MIN}) {
            endsAt(to);
        }
        ProcessTable zero = new Acts().idle(1).op(Check.JUMP, 0).boot(10);
        Check.due("14: act 0 is one", zero.count(9), 0);
    }

    /** "PROCESSES of it go on in what it is then": nothing at all. */
    private static void endOfAWipedProgram() {
        ProcessTable t = new Acts().fork(0, "child").sleep().at("child").sleep().boot(20);
        t.wipe(0);
        Check.due("5: sleepers go on sleeping", t.tick(5), 0);
        t.kill(2, 19);
        t.kill(2, 18);
        Check.due("5: a turn", t.tick(1), 1);
        Check.due("8: there is no act: it ended", t.told(2, 0), Check.ZOMBIE);
        Check.due("8: with status 0", t.told(2, Check.HOW_ENDED), 0);
    }

    private static void anActMoreAheadOfTheEnd() {
        ProcessTable t = new Acts().idle(2).boot(2);
        Check.due("8: behind the last act", t.told(1, Check.NEXT), 2);
        t.act(0, Check.SET, 4, 44);
        t.tick(1);
        Check.due("14: it did not end", t.count(9), 0);
        Check.due("9: but did the act", t.register(1, 4), 44);
    }
}
