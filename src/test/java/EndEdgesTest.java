/** 'Terms', block 4: what the end of a process does to its children, its parent and the groups; at its edges. */
public final class EndEdgesTest {
    public static void main(String[] args) {
        childrenOfEachStateComeToPidOne();
        noChildrenNoComing();
        zombieHasNoAlarmAndNothingPending();
        zombieUnlessChldDoesNothing();
        freedThoughChldIsBlocked();
        freedByItsParentOfThatTime();
        zombieThatComesIsNotFreed();
        parentIsReadyByTheFreed();
        chldToItsParent();
        chldInterruptsAPausedParent();
        chldOfOneThatStops();
        statusOrSignal();
        eachEndIsCounted();
        orphanedIfNobodyElseCares();
        notOrphanedByTheFirstOfTwo();
        zombiesDoNotCare();
        orphanedAheadOfThat();
        orphanedWithoutOneThatIsStopped();
        onlyZombiesAreLeft();
        parentInTheGroup();
        hangupBringsAboutAnother();
        hangupIsHandledOrNothing();
        contIsSentToAll();
        groupOneMayBeOrphaned();
        groupOfPidOneIsNot();
        chldAheadOfHangup();
        hangupByEntries();
        hangupAheadOfCont();
        membersOfAFormerLifeAreNone();
        Check.finish();
    }

    /** PID 1 sleeps; PID 2 forks three children (3, 4, 5), that sleep. */
    private static ProcessTable threeChildren() {
        return new Acts().fork(0, "second").at("sleep").sleep().at("second").fork(0, "sleep").fork(0, "sleep")
            .fork(0, "sleep").jump("sleep").boot(80);
    }

    /** "its children's PARENT becomes 1". */
    private static void childrenOfEachStateComeToPidOne() {
        ProcessTable t = threeChildren();
        t.kill(3, 19);
        t.kill(4, 9);
        t.kill(2, 15);
        int[] states = {Check.STOPPED, Check.ZOMBIE, Check.PAUSED};
        for (int i = 0; i < 3; i++) {
            Check.due("8: PARENT of " + (3 + i), t.told(3 + i, 1), 1);
            Check.due("8: state of " + (3 + i), t.told(3 + i, 0), states[i]);
            Check.due("11: PID 1's child " + (1 + i), t.child(1, 1 + i), 3 + i);
        }
        Check.due("11: PID 2 has none", t.child(2, 0), 0);
        Check.due("8: PID 2's own PARENT stays", t.told(2, 1), 1);
    }

    private static void noChildrenNoComing() {
        // PID 1 waits for 2; 2's child 3 ends, leaving nobody: nothing comes to PID 1.
        ProcessTable t = new Acts().fork(0, "second").op(Check.WAIT, 0, 1).at("sleep").sleep().at("second")
            .fork(0, "sleep").jump("sleep").boot(60);
        t.kill(3, 9);
        Check.due("8: PID 1 waits on", t.told(1, 0), Check.WAITING);
        Check.due("14: KILL, CHLD", t.count(7), 2);
        Check.due("8: PID 3 is PID 2's", t.told(3, 1), 2);
    }

    /** "it is a ZOMBIE, its ALARM over, nothing PENDING". */
    private static void zombieHasNoAlarmAndNothingPending() {
        ProcessTable t = new Acts().fork(0, "child").at("sleep").sleep().at("child").mask(1, 1 << 15 | 1 << 17)
            .alarm(2, 99).set(3, 33).jump("sleep").boot(30);
        t.kill(2, 15);
        t.kill(2, 17);
        Check.due("8: pending", t.told(2, Check.PENDING), 1 << 15 | 1 << 17);
        Check.due("8: an alarm", t.told(2, Check.UNTIL_ALARM) > 0 ? 1 : 0, 1);
        t.kill(2, 9);
        Check.due("8: a zombie", t.told(2, 0), Check.ZOMBIE);
        Check.due("8: nothing pending", t.told(2, Check.PENDING), 0);
        Check.due("8: alarm over", t.told(2, Check.UNTIL_ALARM), 0);
        Check.due("9: its registers stay", t.register(2, 3), 33);
        int sent = t.count(7);
        t.tick(150);
        Check.due("14: none rang", t.count(7), sent);
    }

    /** PID 1 lets CHLD do that, and sleeps; PID 2, its child, sleeps. */
    private static ProcessTable parentWithChld(int does) {
        return new Acts().op(Check.ACTION, 17, does).fork(0, "sleep").at("sleep").sleep().boot(20);
    }

    /** "if what 17 does to its PARENT is 1, its ENTRY is free instead". */
    private static void zombieUnlessChldDoesNothing() {
        for (int does : new int[] {0, 1, 2, 3, 40}) {
            ProcessTable t = parentWithChld(does);
            t.kill(2, 15);
            Check.due("7: entry, CHLD doing " + does, t.entry(1), does == 1 ? 0 : 2);
            Check.due("14: zombies", t.count(1), does == 1 ? 0 : 1);
            Check.due("14: processes", t.count(0), does == 1 ? 1 : 2);
            Check.due("14: ended", t.count(6), 1);
            Check.due("14: TERM, and CHLD all the same", t.count(7), 2);
        }
    }

    private static void freedThoughChldIsBlocked() {
        ProcessTable t = new Acts().op(Check.ACTION, 17, 1).mask(1, 1 << 17).fork(0, "sleep").at("sleep").sleep()
            .boot(20);
        t.kill(2, 15);
        Check.due("7: freed", t.entry(1), 0);
        Check.due("8: CHLD is pending", t.told(1, Check.PENDING), 1 << 17);
        ProcessTable zombie = new Acts().mask(1, 1 << 17).fork(0, "sleep").at("sleep").sleep().boot(20);
        zombie.kill(2, 15);
        Check.due("7: blocked alone frees not", zombie.entry(1), 2);
    }

    /** Its PARENT is the one it has by then: not the one that forked it, nor is it what 17 does to itself. */
    private static void freedByItsParentOfThatTime() {
        // CHLD does nothing to 2, but to PID 1 it is 0: 3, left by 2, becomes a zombie.
        ProcessTable t = new Acts().fork(0, "second").at("sleep").sleep().at("second").op(Check.ACTION, 17, 1)
            .fork(0, "sleep").jump("sleep").boot(40);
        t.kill(2, 9);
        Check.due("8: 2 is a zombie, whatever CHLD does to itself", t.told(2, 0), Check.ZOMBIE);
        t.kill(3, 9);
        Check.due("8: 3 is a zombie", t.told(3, 0), Check.ZOMBIE);
        ProcessTable freed = new Acts().fork(0, "second").at("sleep").sleep().at("second").op(Check.ACTION, 17, 1)
            .fork(0, "sleep").jump("sleep").boot(40);
        freed.kill(3, 9);
        Check.due("8: 3 is freed while 2 lives", freed.told(3, 0), Check.UNKNOWN);
    }

    private static void zombieThatComesIsNotFreed() {
        // CHLD does nothing to PID 1, but is 0 to 2: its zombie 3 comes to PID 1 and stays one.
        ProcessTable t = new Acts().op(Check.ACTION, 17, 1).fork(0, "second").at("sleep").sleep()
            .at("second").op(Check.ACTION, 17, 0).fork(0, "sleep").jump("sleep").boot(40);
        t.kill(3, 9);
        t.kill(2, 9);
        Check.due("8: 2 is freed", t.told(2, 0), Check.UNKNOWN);
        Check.due("8: 3 is a zombie", t.told(3, 0), Check.ZOMBIE);
        Check.due("8: of PID 1", t.told(3, 1), 1);
    }

    /** "(its PARENT READY, if it is WAITING)": only then. */
    private static void parentIsReadyByTheFreed() {
        ProcessTable paused = parentWithChld(1);
        paused.kill(2, 9);
        Check.due("8: a PAUSED one stays so", paused.told(1, 0), Check.PAUSED);
        ProcessTable t = new Acts().fork(0, "second").at("sleep").sleep().at("second").op(Check.ACTION, 17, 1)
            .fork(0, "sleep").op(Check.WAIT, 1, 2).jump("sleep").boot(40);
        Check.due("8: 2 waits", t.told(2, 0), Check.WAITING);
        t.kill(2, 19);
        t.kill(3, 9);
        Check.due("8: a STOPPED one stays so", t.told(2, 0), Check.STOPPED);
        t.kill(2, 18);
        t.tick(1);
        Check.due("9: behind that there is no child", t.register(2, 1), -10);
    }

    /** "17 is SENT to its PARENT": to no other. */
    private static void chldToItsParent() {
        Acts acts = new Acts().handle(17, "handler").fork(0, "second").at("sleep").sleep()
            .at("second").fork(0, "sleep").jump("sleep").at("handler").op(Check.RETURN, 0);
        ProcessTable t = acts.boot(40);
        t.kill(3, 9);
        Check.due("8: to PID 2", t.told(2, Check.PENDING), 1 << 17);
        Check.due("8: not to PID 1", t.told(1, Check.PENDING), 0);
        ProcessTable exit = new Acts().handle(17, "handler").fork(0, "ends").at("sleep").sleep()
            .at("ends").op(Check.EXIT, 3).at("handler").op(Check.RETURN, 0).boot(40);
        Check.due("14: by EXIT, too", exit.count(7), 1);
        Check.due("14: its handler began", exit.count(8), 1);
    }

    private static void chldInterruptsAPausedParent() {
        ProcessTable t = new Acts().handle(17, "handler").fork(0, "sleep").at("sleep").sleep().at("handler")
            .op(Check.RETURN, 0).boot(40);
        t.kill(2, 9);
        Check.due("8: READY", t.told(1, 0), Check.READY);
        Check.due("9: interrupted", t.register(1, Acts.SLEEP), -4);
    }

    /** "(17 is also SENT to the PARENT of one that STOPS.)" Not of one that goes on. */
    private static void chldOfOneThatStops() {
        for (int does : new int[] {0, 1}) {
            ProcessTable t = parentWithChld(does);
            int[] signals = {20, 18, 19, 18, 18, 20, 19};
            int[] sent = {2, 3, 5, 6, 7, 9, 10};
            for (int i = 0; i < signals.length; i++) {
                t.kill(2, signals[i]);
                Check.due("14: sent, with the one of " + signals[i], t.count(7), sent[i]);
            }
            Check.due("14: none ended", t.count(6), 0);
        }
    }

    /** "EXIT, the end of a PROGRAM, RETURN: status; by a SIGNAL: that." */
    private static void statusOrSignal() {
        Acts[] ends = {new Acts().fork(0, "child").sleep().at("child").set(1, 9).op(Check.EXIT, 1),
            new Acts().fork(0, "child").sleep().at("child").set(0, 9), new Acts().fork(0, "child").sleep().at("child")
                .set(0, 9).op(Check.RETURN, 0)};
        int[] how = {9 * 256, 0, 0};
        for (int i = 0; i < ends.length; i++) {
            Check.due("8: how, " + i, ends[i].boot(30).told(2, Check.HOW_ENDED), how[i]);
        }
        for (int s = 1; s <= 16; s++) {
            ProcessTable t = parentWithChld(0);
            Check.due("8: 0 of one that lives", t.told(2, Check.HOW_ENDED), 0);
            t.kill(2, s);
            Check.due("8: by " + s, t.told(2, Check.HOW_ENDED), s);
        }
    }

    private static void eachEndIsCounted() {
        ProcessTable t = threeChildren();
        int[] order = {4, 2, 5, 3};
        for (int i = 0; i < order.length; i++) {
            t.kill(order[i], 9);
            t.kill(order[i], 9);
            Check.due("14: ended", t.count(6), i + 1);
            Check.due("14: zombies", t.count(1), i + 1);
        }
    }

    /** 1 > 2 > 4 and 1 > 3 > 5; 4 and 5 are of group 4, HUP does that to them. */
    private static ProcessTable twoWhoCare(int hup) {
        Acts acts = new Acts().fork(0, "parent").fork(0, "late").at("sleep").sleep()
            .at("late").idle(6).at("parent").idle(6).fork(0, "member").jump("sleep")
            .at("member").op(Check.ACTION, 1, hup).set(1, 4).op(Check.JOIN, 2, 1).jump("sleep");
        ProcessTable t = acts.boot(120);
        Check.due("8: 4's parent", t.told(4, 1), 2);
        Check.due("8: 5's parent", t.told(5, 1), 3);
        Check.due("12: group 4", t.members(4), 2);
        Check.due("14: all sleep", t.count(2), 0);
        return t;
    }

    /** "each such has a PARENT that is in the GROUP, or PID 1". */
    private static void orphanedIfNobodyElseCares() {
        ProcessTable t = twoWhoCare(0);
        t.kill(4, 19);
        t.kill(2, 9);
        int sent = t.count(7);
        t.kill(3, 9);
        Check.due("8: 4 is hung up", t.told(4, Check.HOW_ENDED), 1);
        Check.due("8: 5, that was not STOPPED, too", t.told(5, Check.HOW_ENDED), 1);
        Check.due("14: KILL, CHLD, 2 HUP, 2 CONT, 2 CHLD", t.count(7), sent + 8);
    }

    private static void notOrphanedByTheFirstOfTwo() {
        ProcessTable t = twoWhoCare(0);
        t.kill(4, 19);
        int sent = t.count(7);
        t.kill(2, 9);
        Check.due("8: 4 is STOPPED still, as 3 cares for 5", t.told(4, 0), Check.STOPPED);
        Check.due("14: KILL, CHLD", t.count(7), sent + 2);
    }

    /** "each such": members that are no ZOMBIES; but SENT to all members. */
    private static void zombiesDoNotCare() {
        ProcessTable t = twoWhoCare(0);
        t.kill(5, 9);
        t.kill(4, 19);
        int sent = t.count(7);
        t.kill(2, 9);
        Check.due("8: 4 is hung up, though 5's parent is 3", t.told(4, Check.HOW_ENDED), 1);
        Check.due("14: KILL, CHLD, 2 HUP, 2 CONT, CHLD", t.count(7), sent + 7);
        Check.due("8: 5 ended as it did", t.told(5, Check.HOW_ENDED), 9);
    }

    /** "GROUPS that got ORPHANED by that": not those that were so already. */
    private static void orphanedAheadOfThat() {
        // 2, of group 2, is PID 1's: ORPHANED all the time. 3 ends.
        ProcessTable t = new Acts().fork(0, "second").fork(0, "sleep").at("sleep").sleep().at("second")
            .op(Check.JOIN, 1, 1).jump("sleep").boot(40);
        Check.due("12: group 2", t.members(2), 1);
        t.kill(2, 20);
        t.kill(3, 9);
        Check.due("8: 2 stays STOPPED", t.told(2, 0), Check.STOPPED);
        // A group that got so by one end is not sent to again by another.
        ProcessTable twice = twoWhoCare(1);
        twice.kill(2, 9);
        twice.kill(3, 9);
        twice.kill(4, 19);
        int sent = twice.count(7);
        twice.kill(5, 9);
        Check.due("8: 4 stays STOPPED", twice.told(4, 0), Check.STOPPED);
        Check.due("14: KILL, CHLD", twice.count(7), sent + 2);
    }

    /** "if some member is STOPPED". */
    private static void orphanedWithoutOneThatIsStopped() {
        ProcessTable t = twoWhoCare(0);
        t.kill(4, 19);
        t.kill(4, 18);
        t.tick(5);
        t.kill(2, 9);
        int sent = t.count(7);
        t.kill(3, 9);
        Check.due("8: 4 lives", t.told(4, 0), Check.PAUSED);
        Check.due("8: 5 lives", t.told(5, 0), Check.PAUSED);
        Check.due("14: KILL, CHLD", t.count(7), sent + 2);
        // Nor does a stopped one of another group count.
        ProcessTable other = twoWhoCare(0);
        other.kill(2, 19);
        other.kill(3, 9);
        other.kill(2, 9);
        Check.due("8: 4 lives", other.told(4, 0), Check.PAUSED);
    }

    /** "there is a member that is no ZOMBIE". */
    private static void onlyZombiesAreLeft() {
        ProcessTable t = twoWhoCare(0);
        t.kill(4, 9);
        t.kill(5, 19);
        int sent = t.count(7);
        t.kill(5, 9);
        Check.due("14: KILL, CHLD: nobody is left", t.count(7), sent + 2);
        t.kill(2, 9);
        t.kill(3, 9);
        Check.due("14: KILL, CHLD, twice", t.count(7), sent + 6);
    }

    private static void parentInTheGroup() {
        // 2 > 3 > 4, of one group, 2: 4's PARENT is in it, and 2's is PID 1: ORPHANED ahead of any end.
        ProcessTable t = new Acts().fork(0, "second").at("sleep").sleep().at("second").op(Check.JOIN, 1, 1)
            .fork(0, "third").jump("sleep").at("third").fork(0, "sleep").jump("sleep").boot(80);
        Check.due("12: group 2", t.members(2), 3);
        t.kill(4, 20);
        t.kill(3, 9);
        Check.due("8: 4 stays STOPPED", t.told(4, 0), Check.STOPPED);
        // 1 > 2 > 3 > 4, 3 and 4 of group 3: 3 cares for 4 from within, 2 for 3 from outside.
        ProcessTable outside = groupThree(0);
        outside.kill(4, 20);
        outside.kill(2, 9);
        Check.due("8: 3 is hung up", outside.told(3, Check.HOW_ENDED), 1);
        Check.due("8: 4 is hung up", outside.told(4, Check.HOW_ENDED), 1);
    }

    /** 1 > 2 > 3 > 4, 3 and 4 of group 3, HUP does that to them. */
    private static ProcessTable groupThree(int hup) {
        return new Acts().op(Check.ACTION, 1, hup).fork(0, "second").at("sleep").sleep().at("second")
            .fork(0, "third").jump("sleep").at("third").op(Check.JOIN, 1, 1).fork(0, "sleep").jump("sleep").boot(80);
    }

    /** The end of 2 hangs up 3, the end of that 4: 1 > 2 > 3 (group 3) > 4 (group 4), 3 and 4 are STOPPED. */
    private static void hangupBringsAboutAnother() {
        ProcessTable t = new Acts().fork(0, "second").at("sleep").sleep().at("second").fork(0, "third").jump("sleep")
            .at("third").op(Check.JOIN, 1, 1).fork(0, "fourth").jump("sleep").at("fourth").op(Check.JOIN, 1, 1)
            .jump("sleep").boot(80);
        Check.due("12: group 4", t.members(4), 1);
        t.kill(3, 20);
        t.kill(4, 20);
        int sent = t.count(7);
        t.kill(2, 15);
        Check.due("8: 3 is hung up", t.told(3, Check.HOW_ENDED), 1);
        Check.due("8: and so 4", t.told(4, Check.HOW_ENDED), 1);
        Check.due("8: which is PID 1's", t.told(4, 1), 1);
        Check.due("14: TERM, CHLD, and twice HUP, CONT, CHLD", t.count(7), sent + 8);
    }

    /** "1, then 18 are SENT": one that HUP leaves alive goes on. */
    private static void hangupIsHandledOrNothing() {
        ProcessTable nothing = groupThree(1);
        nothing.kill(4, 20);
        nothing.kill(2, 9);
        Check.due("8: 4 goes on", nothing.told(4, 0), Check.READY);
        Check.due("8: 3 pauses on", nothing.told(3, 0), Check.PAUSED);
        Check.due("14: PID 2 alone ended", nothing.count(6), 1);
        ProcessTable handled = groupThree(2 + 59);
        handled.kill(4, 20);
        handled.kill(2, 9);
        Check.due("8: 4 goes on", handled.told(4, 0), Check.READY);
        Check.due("8: HUP is pending there", handled.told(4, Check.PENDING), 1 << 1);
        Check.due("8: 3 is interrupted", handled.told(3, 0), Check.READY);
        Check.due("9: by HUP", handled.register(3, Acts.SLEEP), -4);
    }

    private static void contIsSentToAll() {
        ProcessTable t = groupThree(1);
        t.kill(4, 20);
        t.kill(3, 20);
        t.kill(2, 9);
        Check.due("8: 3 goes on", t.told(3, 0), Check.READY);
        Check.due("8: 4 goes on", t.told(4, 0), Check.READY);
    }

    /** 1 > 2 (group 2) > 3 (group 1); PID 1 joins first's group. */
    private static ProcessTable groupOne(int first) {
        ProcessTable t = new Acts().fork(0, "second").idle(12).set(2, first).op(Check.JOIN, 1, 2).at("sleep").sleep()
            .at("second").op(Check.JOIN, 1, 1).fork(0, "third").jump("sleep").at("third").set(2, 1)
            .op(Check.JOIN, 1, 2).jump("sleep").boot(80);
        Check.due("8: PID 1's group", t.told(1, 2), first);
        Check.due("8: PID 2's group", t.told(2, 2), 2);
        Check.due("8: PID 3's group", t.told(3, 2), 1);
        t.kill(3, 19);
        return t;
    }

    private static void groupOneMayBeOrphaned() {
        ProcessTable t = groupOne(2);
        t.kill(2, 9);
        Check.due("8: 3 is hung up", t.told(3, Check.HOW_ENDED), 1);
    }

    /** PID 1 is a member whose PARENT, 0, is neither in the GROUP nor PID 1. */
    private static void groupOfPidOneIsNot() {
        ProcessTable t = groupOne(1);
        t.kill(2, 9);
        Check.due("8: 3 is PID 1's", t.told(3, 1), 1);
        Check.due("8: and STOPPED still", t.told(3, 0), Check.STOPPED);
    }

    /**
     * "17 is SENT to its PARENT. Then, of GROUPS ..": 1 > 2 > 3 > 4, 2 and 4 are of group 2, 3 of group 1. The end
     * of 3 interrupts 2 by CHLD, and hangs it up behind that.
     */
    private static void chldAheadOfHangup() {
        ProcessTable t = new Acts().fork(0, "second").at("sleep").sleep()
            .at("second").op(Check.JOIN, 1, 1).fork(0, "third").handle(17, "sleep").jump("sleep")
            .at("third").set(2, 1).op(Check.JOIN, 1, 2).fork(0, "fourth").jump("sleep")
            .at("fourth").set(2, 2).op(Check.JOIN, 1, 2).jump("sleep").boot(80);
        Check.due("8: PID 3's group", t.told(3, 2), 1);
        Check.due("12: group 2", t.members(2), 2);
        Check.due("8: PID 4's parent", t.told(4, 1), 3);
        t.kill(4, 19);
        t.kill(3, 9);
        Check.due("8: 4 is hung up", t.told(4, Check.HOW_ENDED), 1);
        Check.due("8: 2 is hung up", t.told(2, Check.HOW_ENDED), 1);
        Check.due("9: but was interrupted ahead", t.register(2, Acts.SLEEP), -4);
    }

    /**
     * "SENT to all members, by ENTRIES": 3 ends ahead of its child 4, so that this becomes PID 1's zombie; the other
     * way round it were freed, as CHLD does nothing to 3.
     */
    private static void hangupByEntries() {
        ProcessTable t = new Acts().fork(0, "second").at("sleep").sleep().at("second").fork(0, "third").jump("sleep")
            .at("third").op(Check.ACTION, 17, 1).op(Check.JOIN, 1, 1).fork(0, "sleep").jump("sleep").boot(80);
        t.kill(4, 20);
        t.kill(2, 9);
        Check.due("8: 3 is hung up", t.told(3, Check.HOW_ENDED), 1);
        Check.due("8: 4 is a zombie", t.told(4, Check.HOW_ENDED), 1);
        Check.due("8: of PID 1", t.told(4, 1), 1);
    }

    /** "1, then 18": 3, that pauses and has a handler of CONT, ends by HUP without being interrupted. */
    private static void hangupAheadOfCont() {
        ProcessTable t = new Acts().fork(0, "second").at("sleep").sleep().at("second").fork(0, "third").jump("sleep")
            .at("third").handle(18, "sleep").op(Check.JOIN, 1, 1).fork(0, "sleep").jump("sleep").boot(80);
        t.kill(4, 20);
        t.kill(2, 9);
        Check.due("8: 3 is hung up", t.told(3, Check.HOW_ENDED), 1);
        Check.due("9: not interrupted ahead", t.register(3, Acts.SLEEP), 0);
    }

    /** "THE TABLE is free": 5, of group 3 too, was there till a panic, and is no member behind boot(). */
    private static void membersOfAFormerLifeAreNone() {
        ProcessTable t = new Acts().handle(12, "exit").fork(0, "second").at("sleep").sleep().at("second")
            .fork(0, "third").jump("sleep").at("third").op(Check.JOIN, 1, 1).handle(10, "fork").fork(0, "sleep")
            .jump("sleep").at("fork").op(Check.FORK, 2).op(Check.RETURN, 0).at("exit").op(Check.EXIT, 2).boot(80);
        t.kill(4, 10);
        t.tick(20);
        Check.due("12: group 3 of the former life", t.members(3), 3);
        t.kill(1, 12);
        t.tick(20);
        Check.due("14: panic", t.count(9), 1);
        Check.due("12: group 3 is no more", t.members(3), 0);
        t.boot(0);
        t.tick(80);
        Check.due("12: group 3 of this life", t.members(3), 2);
        t.kill(4, 20);
        t.kill(2, 9);
        Check.due("8: 4 is hung up", t.told(4, Check.HOW_ENDED), 1);
    }
}
