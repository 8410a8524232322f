/** Promises 5, 6: how processes end: zombies, orphans, freed ones, orphaned groups, panic. */
public final class EndingTest {
    public static void main(String[] args) {
        zombieKeepsItsPlace();
        childrenComeToPidOne();
        zombieChildrenComeToPidOne();
        freedIfChldDoesNothing();
        freedWakesItsParent();
        freedButChldBlocked();
        orphanedGroupIsHungUp();
        orphanedGroupMayLiveOn();
        orphanedGroupWithoutStops();
        orphanedByTheEndOfAMember();
        groupsThatAreNotOrphaned();
        orphansInTwoGroups();
        signalsToFreedOnes();
        panicFreesAll();
        Check.finish();
    }

    private static void zombieKeepsItsPlace() {
        ProcessTable t = Check.withChild(Check.SET, 3, 33, Check.SET, 4, 90, Check.ALARM, 4, 0);
        t.kill(2, 15);
        Check.due("6: zombie", t.told(2, 0), Check.ZOMBIE);
        Check.due("6: parent", t.told(2, 1), 1);
        Check.due("6: group", t.told(2, 2), 1);
        Check.due("6: alarm over", t.told(2, Check.UNTIL_ALARM), 0);
        Check.due("6: register", t.register(2, 3), 33);
        Check.due("6: entry", t.entry(1), 2);
        Check.due("6: nobody's turn", t.tick(100), 0);
        Check.due("6: no ALRM", t.count(7), 2);
    }

    /** PID 1 waits for all; 2 forks 3; both pause. */
    private static ProcessTable threeGenerations(int meant) {
        ProcessTable t = Check.booted(Check.SET, 1, meant, Check.FORK, 0, 0, Check.ZERO, 0, 5, Check.WAIT, 1, 2,
            Check.JUMP, 3, 0, Check.FORK, 0, 0, Check.PAUSE, 6, 0, Check.JUMP, 6, 0);
        t.tick(20);
        return t;
    }

    private static void childrenComeToPidOne() {
        ProcessTable t = threeGenerations(2);
        Check.due("6: PID 3 is PID 2's", t.told(3, 1), 2);
        Check.due("6: PID 1 waits", t.told(1, 0), Check.WAITING);
        t.kill(2, 9);
        Check.due("6: PID 3 is PID 1's", t.told(3, 1), 1);
        Check.due("6: it lives on", t.told(3, 0), Check.PAUSED);
        Check.due("6: PID 1 is ready", t.told(1, 0), Check.READY);
        Check.due("11: its second child", t.child(1, 1), 3);
        t.tick(1);
        Check.due("6: PID 2 is waited for", t.register(1, 1), 2);

        // 1 > 2 > 3 > 4; PID 1 waits for PID 2 only, but is READY as PID 4 comes to it.
        ProcessTable far = Check.booted(Check.FORK, 0, 0, Check.ZERO, 0, 4, Check.MOVE, 1, 0, Check.WAIT, 1, 2,
            Check.FORK, 3, 0, Check.ZERO, 3, 8, Check.PAUSE, 6, 0, Check.JUMP, 6, 0, Check.FORK, 4, 0,
            Check.PAUSE, 6, 0, Check.JUMP, 9, 0);
        far.tick(40);
        Check.due("6: PID 1 waits for PID 2", far.told(1, 0), Check.WAITING);
        Check.due("6: PID 4 is PID 3's", far.told(4, 1), 3);
        far.kill(3, 9);
        Check.due("6: PID 4 came to PID 1", far.told(4, 1), 1);
        Check.due("6: PID 1 is ready", far.told(1, 0), Check.READY);
    }

    private static void zombieChildrenComeToPidOne() {
        ProcessTable t = threeGenerations(-1);
        t.kill(3, 15);
        t.tick(5);
        Check.due("6: PID 3 is PID 2's zombie", t.told(3, 0), Check.ZOMBIE);
        t.kill(2, 9);
        Check.due("6: then PID 1's", t.told(3, 1), 1);
        t.tick(1);
        Check.due("6: PID 1 frees one", t.register(1, 1), 2);
        t.tick(2);
        Check.due("6: what was freed by PID 1", t.count(0), 2);
    }

    private static void freedIfChldDoesNothing() {
        ProcessTable t = Check.booted(Check.ACTION, 17, 1, Check.FORK, 0, 0, Check.ZERO, 0, 4, Check.PAUSE, 7, 0,
            Check.PAUSE, 6, 0);
        t.tick(20);
        t.kill(2, 15);
        Check.due("6: freed at once", t.entry(1), 0);
        Check.due("6: no such PID", t.told(2, 0), Check.UNKNOWN);
        Check.due("6: it ended", t.count(6), 1);
        Check.due("6: no zombie", t.count(1), 0);
        Check.due("6: CHLD was sent", t.count(7), 2);
        Check.due("6: no child", t.child(1, 0), 0);
        Check.due("6: one member", t.members(1), 1);
        Check.due("6: PID 1 is paused still", t.told(1, 0), Check.PAUSED);
    }

    private static void freedWakesItsParent() {
        ProcessTable t = Check.booted(Check.ACTION, 17, 1, Check.FORK, 0, 0, Check.ZERO, 0, 5, Check.WAIT, 0, 1,
            Check.PAUSE, 7, 0, Check.PAUSE, 6, 0);
        t.tick(20);
        Check.due("6: waiting", t.told(1, 0), Check.WAITING);
        t.kill(2, 15);
        Check.due("6: ready", t.told(1, 0), Check.READY);
        t.tick(1);
        Check.due("6: there is no child any more", t.register(1, 0), -10);
    }

    private static void freedButChldBlocked() {
        ProcessTable t = Check.booted(Check.ACTION, 17, 1, Check.SET, 1, 1 << 17, Check.MASK, 1, 0, Check.FORK, 0, 0,
            Check.PAUSE, 7, 0);
        t.tick(20);
        t.kill(2, 15);
        Check.due("6: freed", t.entry(1), 0);
        Check.due("6: CHLD is pending", t.told(1, Check.PENDING), 1 << 17);
    }

    /** 1 > 2 > 3 > 4; 3 and 4 are in group 3, with what HUP does to them. */
    private static ProcessTable groupOfThree(int hup) {
        ProcessTable t = Check.booted(
            Check.ACTION, 1, hup, Check.FORK, 0, 0, Check.ZERO, 0, 5, Check.PAUSE, 7, 0, Check.JUMP, 3, 0,
            Check.FORK, 0, 0, Check.ZERO, 0, 9, Check.PAUSE, 7, 0, Check.JUMP, 7, 0,
            Check.JOIN, 3, 3, Check.FORK, 0, 0, Check.PAUSE, 7, 0, Check.JUMP, 11, 0);
        t.tick(40);
        Check.due("6: members", t.members(3), 2);
        Check.due("6: all paused", t.count(2), 0);
        return t;
    }

    private static void orphanedGroupIsHungUp() {
        ProcessTable t = groupOfThree(0);
        t.kill(4, 19);
        Check.due("6: sent: STOP, CHLD", t.count(7), 2);
        t.kill(2, 9);
        Check.due("6: PID 3 hung up", t.told(3, Check.HOW_ENDED), 1);
        Check.due("6: PID 4 hung up", t.told(4, Check.HOW_ENDED), 1);
        Check.due("6: sent: KILL, CHLD, 2 HUP, 2 CONT, 2 CHLD more", t.count(7), 2 + 1 + 1 + 4 + 2);
        Check.due("6: ended", t.count(6), 3);
        for (int i = 0; i < 3; i++) {
            Check.due("11: all are PID 1's", t.child(1, i), 2 + i);
        }
    }

    private static void orphanedGroupMayLiveOn() {
        ProcessTable t = groupOfThree(1);
        t.kill(4, 20);
        t.kill(2, 9);
        Check.due("6: PID 4 goes on", t.told(4, 0), Check.READY);
        Check.due("6: PID 3 is paused still", t.told(3, 0), Check.PAUSED);

        ProcessTable handled = groupOfThree(2 + 11);
        handled.kill(3, 20);
        handled.kill(2, 9);
        Check.due("6: PID 3 goes on", handled.told(3, 0), Check.READY);
        Check.due("6: HUP is pending", handled.told(3, Check.PENDING), 1 << 1);
        Check.due("6: PID 3 was stopped, not interrupted", handled.register(3, 7), 0);
        Check.due("6: PID 4 was interrupted", handled.register(4, 7), -4);
    }

    private static void orphanedGroupWithoutStops() {
        ProcessTable t = groupOfThree(0);
        t.kill(2, 9);
        Check.due("6: nobody stopped, nobody hung up", t.told(3, 0), Check.PAUSED);
        Check.due("6: KILL, CHLD", t.count(7), 2);
        t.kill(4, 19);
        t.kill(3, 9);
        Check.due("6: the group was orphaned ahead of that", t.told(4, 0), Check.STOPPED);
        Check.due("6: STOP, CHLD, KILL, CHLD", t.count(7), 6);
    }

    private static void orphanedByTheEndOfAMember() {
        // PID 3 alone has a parent outside group 3: with its end only PID 4 is left, that comes to PID 1.
        ProcessTable t = groupOfThree(1);
        t.kill(4, 19);
        int sent = t.count(7);
        t.kill(3, 9);
        Check.due("6: PID 4 goes on", t.told(4, 0), Check.READY);
        Check.due("6: KILL, CHLD, HUP and CONT to both, the zombie too", t.count(7), sent + 6);

        // As PID 2 lets CHLD do nothing, PID 3 is no member any more.
        ProcessTable freed = Check.booted(
            Check.ACTION, 1, 1, Check.FORK, 0, 0, Check.ZERO, 0, 5, Check.PAUSE, 7, 0, Check.JUMP, 3, 0,
            Check.ACTION, 17, 1, Check.FORK, 0, 0, Check.ZERO, 0, 10, Check.PAUSE, 7, 0, Check.JUMP, 8, 0,
            Check.JOIN, 3, 3, Check.FORK, 0, 0, Check.PAUSE, 7, 0, Check.JUMP, 12, 0);
        freed.tick(40);
        freed.kill(4, 19);
        int before = freed.count(7);
        freed.kill(3, 9);
        Check.due("6: PID 3 is gone", freed.told(3, 0), Check.UNKNOWN);
        Check.due("6: PID 4 goes on", freed.told(4, 0), Check.READY);
        Check.due("6: KILL, CHLD, HUP and CONT to one", freed.count(7), before + 4);
    }

    private static void groupsThatAreNotOrphaned() {
        // PID 1's own group never is: 2 ends, 3 of group 1 is stopped and comes to PID 1.
        ProcessTable t = threeGenerations(2);
        t.kill(3, 19);
        t.kill(2, 9);
        Check.due("6: PID 3 stays stopped", t.told(3, 0), Check.STOPPED);

        // The only member that is stopped ends: nobody is left to be hung up.
        ProcessTable alone = groupOfThree(0);
        alone.kill(4, 9);
        alone.kill(3, 19);
        int sent = alone.count(7);
        alone.kill(3, 9);
        Check.due("6: KILL, CHLD only", alone.count(7), sent + 2);
    }

    private static void orphansInTwoGroups() {
        // 2 has the children 3 (group 3) and 4 (group 4); both are stopped when 2 ends.
        ProcessTable t = Check.booted(
            Check.FORK, 0, 0, Check.ZERO, 0, 4, Check.PAUSE, 7, 0, Check.JUMP, 2, 0, Check.FORK, 0, 0,
            Check.ZERO, 0, 10, Check.FORK, 0, 0, Check.ZERO, 0, 10, Check.PAUSE, 7, 0, Check.JUMP, 8, 0,
            Check.JOIN, 3, 3, Check.PAUSE, 7, 0);
        t.tick(40);
        t.kill(3, 20);
        t.kill(4, 20);
        int sent = t.count(7);
        t.kill(2, 15);
        Check.due("6: PID 3 hung up", t.told(3, Check.HOW_ENDED), 1);
        Check.due("6: PID 4 hung up", t.told(4, Check.HOW_ENDED), 1);
        Check.due("6: TERM, CHLD, 2 HUP, 2 CONT, 2 CHLD", t.count(7), sent + 8);
    }

    private static void signalsToFreedOnes() {
        // 1 > 2 > 3 > 4; 3 and 4 are in group 3, 4 is stopped. PID 1, to whom CHLD does nothing, kills all: the end
        // of 2 sends HUP and CONT to 3 and 4, but those are freed ahead of them in the row.
        ProcessTable t = Check.booted(
            Check.FORK, 0, 0, Check.ZERO, 0, 8, Check.ACTION, 17, 1, Check.ACTION, 10, 2 + 5, Check.PAUSE, 7, 0,
            Check.SET, 1, -1, Check.SET, 2, 9, Check.KILL, 1, 2,
            Check.FORK, 0, 0, Check.ZERO, 0, 12, Check.PAUSE, 7, 0, Check.JUMP, 10, 0,
            Check.JOIN, 3, 3, Check.FORK, 0, 0, Check.PAUSE, 7, 0, Check.JUMP, 14, 0);
        t.tick(40);
        t.kill(4, 19);
        t.kill(1, 10);
        t.tick(3);
        Check.due("5: not killed yet", t.count(0), 4);
        int sent = t.count(7);
        t.tick(1);
        Check.due("5: all others are freed", t.count(0), 1);
        Check.due("14: three ended", t.count(6), 3);
        Check.due("14: 3 KILL, 3 CHLD, 2 HUP, 2 CONT", t.count(7), sent + 10);
        Check.due("5: PID 1 goes on", t.told(1, Check.NEXT), 8);
    }

    private static void panicFreesAll() {
        ProcessTable t = Check.booted(Check.FORK, 0, 0, Check.ZERO, 0, 4, Check.IDLE, 0, 0, Check.EXIT, 1, 0,
            Check.SET, 0, 7, Check.ALARM, 0, 0, Check.PAUSE, 6, 0);
        Check.due("5: turns till the panic", t.tick(40), 7);
        Check.due("14: panics", t.count(9), 1);
        Check.due("14: PID 1 ended, the others were freed", t.count(6), 1);
        Check.due("14: nothing was sent", t.count(7), 0);
        Check.due("14: no process", t.count(0), 0);
        Check.due("14: none ready", t.count(2), 0);
        for (int e = 0; e < 24; e++) {
            Check.due("7: free", t.entry(e), 0);
        }
        Check.due("12: no member", t.members(1), 0);
        t.tick(20);
        Check.due("5: no alarm of one that is gone", t.count(7), 0);
        Check.due("4: boot again", t.boot(0), 1);
        Check.due("5: it goes on", t.tick(1), 1);
    }
}
