/** 'Terms', block 3, ops 14 to 23: KILL, ACTION, MASK, PAUSE, RETURN, ALARM, the names, JOIN; at their edges. */
public final class SignalOpEdgesTest {
    public static void main(String[] args) {
        killOfNoSignal();
        killByZeroSendsNone();
        killByOneAndTwenty();
        killOfNone();
        killOfAPid();
        killOfItsGroup();
        killOfAllButTwo();
        killOfAGroup();
        killOfZombies();
        killByEntries();
        killWithOneRegister();
        actionOfTheEdges();
        actionOfNoSignal();
        actionBelowZero();
        actionWhileItIsPending();
        maskDropsOtherBits();
        maskTellsWhatWas();
        pauseTillInterrupted();
        pauseAgainBehindAStop();
        returnToWhatWasKept();
        returnWithoutOne();
        alarmOfNoTicks();
        alarmTellsWhatTheOneBeforeHad();
        alarmOfTheMostTicks();
        names();
        joinItself();
        joinAChild();
        joinAnExistingGroup();
        joinOfNeither();
        joinOfAZombie();
        joinOfOneThatDidExec();
        joinToNoGroup();
        Check.finish();
    }

    private static Acts child() {
        return new Acts().fork(0, "child").sleep().at("child");
    }

    /** PID 1 > 2 > 3 and 1 > 4 (of group 4); PID 2 does KILL of meant by s, once it gets 10. */
    private static ProcessTable killer(int meant, int s) {
        Acts acts = new Acts().fork(0, "second").idle(9).fork(0, "fourth").at("sleep").sleep()
            .at("second").handle(10, "kill").set(1, meant).set(2, s).fork(0, "sleep").jump("sleep")
            .at("kill").op(Check.KILL, 1, 2).at("behind").jump("sleep")
            .at("fourth").op(Check.JOIN, 3, 3).jump("sleep");
        ProcessTable t = acts.boot(80);
        Check.due("8: PID 3 is PID 2's", t.told(3, 1), 2);
        Check.due("8: PID 4 is of group 4", t.told(4, 2), 4);
        return t;
    }

    /** How many signals KILL sent, with those that they brought about. */
    private static int sentBy(ProcessTable t) {
        t.kill(2, 10);
        t.tick(1);
        int sent = t.count(7);
        t.tick(1);
        return t.count(7) - sent;
    }

    /** "-22 ahead, if rb is not 0 .. 20": ahead of -3, too. */
    private static void killOfNoSignal() {
        for (int s : new int[] {-1, 21, 32, 32 + 9, 256, Check.MIN, Check.MAX}) {
            for (int meant : new int[] {3, 99, 0, -1, -99}) {
                ProcessTable t = killer(meant, s);
                Check.due("14: sent", sentBy(t), 0);
                Check.due("9: KILL of " + meant + " by " + s, t.register(2, 1), -22);
                Check.due("14: all live", t.count(6), 0);
            }
        }
    }

    /** "with 0 none is SENT". */
    private static void killByZeroSendsNone() {
        for (int meant : new int[] {1, 2, 3, 4, 0, -1, -4}) {
            ProcessTable t = killer(meant, 0);
            Check.due("14: sent", sentBy(t), 0);
            Check.due("9: KILL of " + meant + " by 0", t.register(2, 1), 0);
        }
        for (int meant : new int[] {5, 99, -2, -99}) {
            ProcessTable t = killer(meant, 0);
            sentBy(t);
            Check.due("9: KILL of " + meant + " by 0", t.register(2, 1), -3);
        }
    }

    private static void killByOneAndTwenty() {
        ProcessTable one = killer(4, 1);
        Check.due("14: HUP, CHLD", sentBy(one), 2);
        Check.due("9: KILL by 1", one.register(2, 1), 0);
        Check.due("8: ended", one.told(4, Check.HOW_ENDED), 1);
        ProcessTable twenty = killer(4, 20);
        Check.due("14: TSTP, CHLD", sentBy(twenty), 2);
        Check.due("9: KILL by 20", twenty.register(2, 1), 0);
        Check.due("8: stopped", twenty.told(4, 0), Check.STOPPED);
    }

    /** "-3, if there is none such". */
    private static void killOfNone() {
        for (int meant : new int[] {5, 999, Check.MAX, -2, -3, -5, Check.MIN, Check.MIN + 1}) {
            ProcessTable t = killer(meant, 9);
            Check.due("14: sent", sentBy(t), 0);
            Check.due("9: KILL of " + meant, t.register(2, 1), -3);
        }
        ProcessTable alone = new Acts().set(1, -1).set(2, 9).op(Check.KILL, 1, 2).sleep().boot(3);
        Check.due("9: KILL of all, PID 1 being alone", alone.register(1, 1), -3);
        ProcessTable two = child().set(1, -1).set(2, 9).op(Check.KILL, 1, 2).sleep().boot(20);
        Check.due("9: KILL of all, PID 1 and itself being there", two.register(2, 1), -3);
    }

    /** "(above 0: that PID": any, its parent, itself and PID 1 too. */
    private static void killOfAPid() {
        ProcessTable other = killer(4, 15);
        sentBy(other);
        Check.due("8: one that is no kin", other.told(4, Check.HOW_ENDED), 15);
        ProcessTable itself = killer(2, 15);
        sentBy(itself);
        Check.due("8: itself", itself.told(2, Check.HOW_ENDED), 15);
        ProcessTable first = killer(1, 15);
        Check.due("14: SENT to PID 1", sentBy(first), 1);
        Check.due("9: ra", first.register(2, 1), 0);
        Check.due("8: to whom it is nothing", first.told(1, 0), Check.PAUSED);
    }

    private static void ended(String what, ProcessTable t, int... pids) {
        int[] how = new int[5];
        for (int pid : pids) {
            how[pid] = 15;
        }
        for (int pid = 1; pid <= 4; pid++) {
            Check.due(what + ", PID " + pid, t.told(pid, Check.HOW_ENDED), how[pid]);
        }
        Check.due(what + ", ra", t.register(2, 1), 0);
    }

    /** "0: its GROUP", with itself. */
    private static void killOfItsGroup() {
        ProcessTable t = killer(0, 15);
        Check.due("14: 3 TERM, 2 CHLD", sentBy(t), 5);
        ended("KILL of its group", t, 2, 3);
    }

    /** "-1: all but itself and PID 1". */
    private static void killOfAllButTwo() {
        ProcessTable t = killer(-1, 15);
        Check.due("14: 2 TERM, 2 CHLD", sentBy(t), 4);
        ended("KILL of all but two", t, 3, 4);
    }

    /** "else: GROUP -ra". */
    private static void killOfAGroup() {
        ProcessTable t = killer(-4, 15);
        Check.due("14: TERM, CHLD", sentBy(t), 2);
        ended("KILL of group 4", t, 4);
    }

    /** "(ZOMBIES are such, too)". */
    private static void killOfZombies() {
        for (int meant : new int[] {4, -4}) {
            for (int s : new int[] {0, 9}) {
                ProcessTable t = killer(meant, s);
                t.kill(4, 15);
                Check.due("14: sent to a zombie", sentBy(t), s == 0 ? 0 : 1);
                Check.due("9: KILL of " + meant + " by " + s, t.register(2, 1), 0);
                Check.due("8: it ended as it did", t.told(4, Check.HOW_ENDED), 15);
            }
        }
        // All others are zombies: 2 has the child 3 that ended.
        ProcessTable all = child().fork(0, "ends").set(1, -1).set(2, 9).idle(4).op(Check.KILL, 1, 2).sleep()
            .at("ends").op(Check.EXIT, 5).boot(40);
        Check.due("14: one zombie", all.count(1), 1);
        Check.due("9: KILL of all", all.register(2, 1), 0);
    }

    /**
     * "by ENTRIES": of 2 and its child 3 the parent ends first, so that 3 becomes PID 1's zombie; the other way round
     * it were freed, as CHLD does nothing to PID 2.
     */
    private static void killByEntries() {
        ProcessTable t = new Acts().fork(0, "second").handle(10, "kill").at("sleep").sleep().at("kill").set(1, -1)
            .set(2, 15).op(Check.KILL, 1, 2).jump("sleep").at("second").op(Check.ACTION, 17, 1).fork(0, "sleep")
            .jump("sleep").boot(40);
        t.kill(1, 10);
        t.tick(4);
        Check.due("14: both ended", t.count(6), 2);
        Check.due("14: both are zombies", t.count(1), 2);
        Check.due("8: PID 3 is PID 1's", t.told(3, 1), 1);
    }

    private static void killWithOneRegister() {
        // Register 1 is both whom and by what: PID 2 by signal 2.
        ProcessTable t = new Acts().fork(0, "sleep").set(1, 2).op(Check.KILL, 1, 1).at("sleep").sleep().boot(20);
        Check.due("8: ended", t.told(2, Check.HOW_ENDED), 2);
        Check.due("9: ra", t.register(1, 1), 0);
    }

    /** "15 ACTION: what SIGNAL a does becomes b (0, 1, 2 + i". */
    private static void actionOfTheEdges() {
        for (int s : new int[] {1, 8, 10, 17, 18, 20}) {
            for (int does : new int[] {0, 1, 2, 3, 61}) {
                ProcessTable t = new Acts().op(Check.ACTION, s, 7).op(Check.ACTION, s, does).sleep().boot(2);
                Check.due("10: ACTION of " + s, t.action(1, s), does);
            }
        }
    }

    /** "or for 9, 19, or no SIGNAL, nothing changes": a is no register, and not modulo anything. */
    private static void actionOfNoSignal() {
        for (int s : new int[] {9, 19, 0, -1, 21, 22, 32, 32 + 5, -5, 256 + 5, Check.MIN, Check.MAX}) {
            for (int does : new int[] {1, 2, 30}) {
                ProcessTable t = new Acts().op(Check.ACTION, s, does).sleep().boot(1);
                for (int other = 1; other <= 20; other++) {
                    Check.due("10: ACTION of " + s + ", action " + other, t.action(1, other), 0);
                }
                Check.due("8: the act behind is next", t.told(1, Check.NEXT), 1);
            }
        }
    }

    private static void actionBelowZero() {
        for (int does : new int[] {-1, -2, Check.MIN}) {
            for (int was : new int[] {0, 1, 5}) {
                ProcessTable t = new Acts().op(Check.ACTION, 15, was).op(Check.ACTION, 15, does).sleep().boot(2);
                Check.due("10: ACTION to " + does, t.action(1, 15), was);
            }
        }
    }

    private static void actionWhileItIsPending() {
        // Blocked by its own handler, 10 is pending; ACTION neither begins nor drops it.
        for (int does : new int[] {0, 1}) {
            ProcessTable t = child().handle(10, "handler").sleep().at("handler").idle(1).op(Check.ACTION, 10, does)
                .idle(1).op(Check.RETURN, 0).boot(20);
            t.kill(2, 10);
            t.tick(1);
            t.kill(2, 10);
            t.tick(2);
            Check.due("8: pending still", t.told(2, Check.PENDING), 1 << 10);
            Check.due("10: action", t.action(2, 10), does);
            t.tick(2);
            Check.due("8: behind RETURN", t.told(2, 0), does == 0 ? Check.ZOMBIE : Check.READY);
            Check.due("8: pending no more", t.told(2, Check.PENDING), 0);
        }
    }

    /** "BLOCKED becomes ra (bits 1 to 20, without 9, 19)". */
    private static void maskDropsOtherBits() {
        for (int bit = 0; bit < 32; bit++) {
            boolean may = bit >= 1 && bit <= 20 && bit != 9 && bit != 19;
            ProcessTable t = new Acts().mask(1, 1 << bit).sleep().boot(2);
            Check.due("8: bit " + bit, t.told(1, Check.BLOCKED), may ? 1 << bit : 0);
        }
        ProcessTable all = new Acts().mask(1, -1).sleep().boot(2);
        Check.due("8: all bits", all.told(1, Check.BLOCKED), 0x1FFFFE - (1 << 9) - (1 << 19));
        ProcessTable none = new Acts().mask(1, -1).mask(1, 0).sleep().boot(4);
        Check.due("8: no bits", none.told(1, Check.BLOCKED), 0);
    }

    /** "ra what it was": BLOCKED as it was, not what was asked for. */
    private static void maskTellsWhatWas() {
        ProcessTable t = new Acts().mask(1, -1).mask(2, 6).mask(3, 0).sleep().boot(6);
        Check.due("9: at first", t.register(1, 1), 0);
        Check.due("9: then", t.register(1, 2), 0x1FFFFE - (1 << 9) - (1 << 19));
        Check.due("9: then", t.register(1, 3), 6);
    }

    /** "17 PAUSE: it is PAUSED till it is INTERRUPTED". */
    private static void pauseTillInterrupted() {
        Acts acts = child().handle(10, "sleep").at("pause").op(Check.PAUSE, 3).at("sleep").sleep();
        ProcessTable t = acts.boot(20);
        Check.due("5: nobody's turn", t.tick(200), 0);
        Check.due("8: paused", t.told(2, 0), Check.PAUSED);
        Check.due("9: not told yet", t.register(2, 3), 0);
        t.kill(2, 10);
        Check.due("9: interrupted", t.register(2, 3), -4);
        Check.due("8: the act behind is next", t.told(2, Check.NEXT), acts.number("sleep"));
        // What is pending already begins ahead of PAUSE.
        ProcessTable ahead = child().handle(10, "sleep").idle(5).op(Check.PAUSE, 3).at("sleep").sleep().boot(8);
        ahead.kill(2, 10);
        ahead.tick(1);
        Check.due("8: the handler began ahead", ahead.told(2, Check.HANDLERS), 1);
    }

    /** "(this ACT is next again, if it is STOPPED and goes on)". */
    private static void pauseAgainBehindAStop() {
        Acts acts = child().at("pause").op(Check.PAUSE, 3).set(4, 44).sleep();
        ProcessTable t = acts.boot(20);
        for (int s : new int[] {19, 20}) {
            t.kill(2, s);
            t.kill(2, 18);
            Check.due("8: READY", t.told(2, 0), Check.READY);
            Check.due("8: PAUSE is next", t.told(2, Check.NEXT), acts.number("pause"));
            Check.due("5: one turn", t.tick(10), 1);
            Check.due("8: paused", t.told(2, 0), Check.PAUSED);
        }
        Check.due("9: it is not interrupted", t.register(2, 3), 0);
        Check.due("9: and did not go on", t.register(2, 4), 0);
    }

    /** "the next ACT and BLOCKED are as they were kept", whatever the handler did to BLOCKED. */
    private static void returnToWhatWasKept() {
        Acts acts = child().mask(1, 1 << 4).handle(10, "handler").at("loop").idle(1).jump("loop")
            .at("handler").mask(2, 1 << 5 | 1 << 6).op(Check.RETURN, 0);
        ProcessTable t = acts.boot(20);
        int next = t.told(2, Check.NEXT);
        t.kill(2, 10);
        t.tick(3);
        Check.due("8: blocked in the handler", t.told(2, Check.BLOCKED), 1 << 5 | 1 << 6);
        Check.due("9: MASK told what was", t.register(2, 2), 1 << 4 | 1 << 10);
        t.tick(1);
        Check.due("8: blocked as kept", t.told(2, Check.BLOCKED), 1 << 4);
        Check.due("8: the next act as kept", t.told(2, Check.NEXT), next);
    }

    /** "without one it ENDS with status 0". */
    private static void returnWithoutOne() {
        ProcessTable t = child().set(0, 77).op(Check.RETURN, 0).boot(20);
        Check.due("8: ended", t.told(2, 0), Check.ZOMBIE);
        Check.due("8: with status 0", t.told(2, Check.HOW_ENDED), 0);
        ProcessTable twice = child().handle(10, "handler").sleep().at("handler").op(Check.RETURN, 0).boot(20);
        twice.kill(2, 10);
        twice.tick(2);
        Check.due("8: one RETURN for one handler", twice.told(2, Check.HANDLERS), 0);
        Check.due("8: it lives", twice.told(2, 0), Check.READY);
        ProcessTable exec = child().handle(10, "exec").sleep().at("exec").op(Check.EXEC, 1, 3).boot(20);
        exec.act(3, Check.RETURN, 0, 0);
        exec.kill(2, 10);
        exec.tick(3);
        Check.due("8: behind EXEC none is under way", exec.told(2, 0), Check.ZOMBIE);
    }

    /** "(0, below: none)": also of one that was under way. */
    private static void alarmOfNoTicks() {
        for (int ticks : new int[] {0, -1, Check.MIN}) {
            ProcessTable t = child().alarm(1, ticks).sleep().boot(20);
            Check.due("8: none by " + ticks, t.told(2, Check.UNTIL_ALARM), 0);
            Check.due("9: ra", t.register(2, 1), 0);
            ProcessTable over = child().alarm(1, 20).alarm(2, ticks).sleep().boot(200);
            Check.due("8: none any more by " + ticks, over.told(2, Check.UNTIL_ALARM), 0);
            Check.due("14: none rang", over.count(7), 0);
        }
    }

    /** "ra is how many the one before had yet, 0 without". */
    private static void alarmTellsWhatTheOneBeforeHad() {
        ProcessTable t = new Acts().alarm(1, 50).alarm(2, 3).op(Check.MOVE, 5, 2).idle(2).alarm(3, 9).sleep().boot(4);
        Check.due("9: without", t.register(1, 1), 0);
        Check.due("9: two ticks later", t.register(1, 2), 48);
        Check.due("8: the new one", t.told(1, Check.UNTIL_ALARM), 3);
        t.tick(3);
        Check.due("14: it rang", t.count(7), 1);
        t.tick(2);
        Check.due("9: behind that", t.register(1, 3), 0);
        Check.due("8: the third", t.told(1, Check.UNTIL_ALARM), 9);
        ProcessTable same = new Acts().alarm(1, 1).sleep().boot(2);
        Check.due("8: of one tick", same.told(1, Check.UNTIL_ALARM), 1);
    }

    private static void alarmOfTheMostTicks() {
        ProcessTable t = new Acts().idle(10).alarm(1, Check.MAX).sleep().boot(12);
        Check.due("8: MAX ticks", t.told(1, Check.UNTIL_ALARM), Check.MAX);
        t.tick(200);
        Check.due("8: 200 less", t.told(1, Check.UNTIL_ALARM), Check.MAX - 200);
        Check.due("14: none rang", t.count(7), 0);
    }

    /** "20 OWN: ra is its PID. 21 PARENT: ra. 22 GROUP: ra.": PID 1's PARENT is 0. */
    private static void names() {
        ProcessTable t = new Acts().set(2, 9).fork(0, "tell").at("tell").op(Check.OWN, 1).op(Check.PARENT, 2)
            .op(Check.GROUP, 3).sleep().boot(40);
        int[][] want = {{1, 0, 1}, {2, 1, 1}};
        for (int pid = 1; pid <= 2; pid++) {
            for (int i = 0; i < 3; i++) {
                Check.due("9: name " + i + " of PID " + pid, t.register(pid, 1 + i), want[pid - 1][i]);
            }
        }
        // PID 3 asks for its parent when PID 2 has ended.
        ProcessTable orphan = child().fork(0, "third").op(Check.EXIT, 1).at("third").idle(6).op(Check.PARENT, 2).sleep()
            .boot(40);
        Check.due("9: an orphan's parent", orphan.register(3, 2), 1);
    }

    /** PID 2, with the child 3 (that sleeps), does JOIN of whom to group. */
    private static ProcessTable joiner(int whom, int group) {
        return new Acts().fork(0, "second").fork(0, "sleep").at("sleep").sleep().at("second").idle(6).fork(0, "sleep")
            .set(1, whom).set(2, group).op(Check.JOIN, 1, 2).jump("sleep").boot(80);
    }

    private static void joined(String what, ProcessTable t, int answer, int pid, int group) {
        Check.due(what + ", ra", t.register(2, 1), answer);
        for (int other = 1; other <= 4; other++) {
            Check.due(what + ", group of " + other, t.told(other, 2), other == pid ? group : 1);
        }
    }

    /** "the GROUP of the PROCESS ra (0: itself) becomes rb (0: its PID)". */
    private static void joinItself() {
        Check.due("8: PID 2's child", joiner(0, 0).child(2, 0), 4);
        joined("5: JOIN 0 0", joiner(0, 0), 0, 2, 2);
        joined("5: JOIN 2 0", joiner(2, 0), 0, 2, 2);
        joined("5: JOIN 0 2", joiner(0, 2), 0, 2, 2);
        joined("5: JOIN 2 2", joiner(2, 2), 0, 2, 2);
        joined("5: JOIN 0 1", joiner(0, 1), 0, 2, 1);
        ProcessTable first = new Acts().op(Check.JOIN, 1, 2).sleep().boot(1);
        Check.due("8: PID 1 of its own group", first.told(1, 2), 1);
        Check.due("9: ra", first.register(1, 1), 0);
    }

    private static void joinAChild() {
        joined("5: JOIN 4 0", joiner(4, 0), 0, 4, 4);
        joined("5: JOIN 4 4", joiner(4, 4), 0, 4, 4);
        joined("5: JOIN 4 1", joiner(4, 1), 0, 4, 1);
    }

    private static void joinAnExistingGroup() {
        // PID 2 makes group 2; its child 3 leaves for group 1, that of its grandparent, and comes back.
        ProcessTable t = child().op(Check.JOIN, 1, 1).fork(0, "third").sleep().at("third").set(2, 1)
            .op(Check.JOIN, 1, 2).op(Check.GROUP, 3).set(2, 2).op(Check.JOIN, 4, 2).sleep().boot(60);
        Check.due("9: ra", t.register(3, 1), 0);
        Check.due("9: it was in group 1", t.register(3, 3), 1);
        Check.due("9: ra again", t.register(3, 4), 0);
        Check.due("8: it is in group 2", t.told(3, 2), 2);
        // The only member of group 3 is a zombie, and its group may be joined still.
        ProcessTable zombie = child().fork(3, "third").idle(6).set(2, 3).op(Check.JOIN, 1, 2).sleep()
            .at("third").op(Check.JOIN, 1, 1).op(Check.EXIT, 1).boot(60);
        Check.due("8: a zombie", zombie.told(3, 0), Check.ZOMBIE);
        Check.due("9: ra", zombie.register(2, 1), 0);
        Check.due("8: the zombie's group", zombie.told(2, 2), 3);
    }

    /** "-3: it is neither itself nor a child of it". */
    private static void joinOfNeither() {
        for (int whom : new int[] {1, 3, 5, 999, -1, -2, -4, Check.MIN, Check.MAX}) {
            for (int group : new int[] {0, 1, 77}) {
                joined("5: JOIN of " + whom, joiner(whom, group), -3, 0, 0);
            }
        }
        // A grandchild is no child.
        ProcessTable t = new Acts().fork(0, "second").set(1, 3).idle(9).op(Check.JOIN, 1, 2).at("sleep").sleep()
            .at("second").fork(0, "sleep").jump("sleep").boot(60);
        Check.due("9: JOIN of a grandchild", t.register(1, 1), -3);
    }

    /** "(that is no ZOMBIE)", also ahead of -13 and -1. */
    private static void joinOfAZombie() {
        ProcessTable t = new ProcessTable();
        new Acts().fork(0, "second").fork(0, "third").idle(9).set(1, 2).op(Check.JOIN, 1, 5).set(2, 3).set(6, 77)
            .op(Check.JOIN, 2, 6).sleep().at("second").op(Check.EXIT, 5).at("third").op(Check.EXEC, 1, 1).load(t, 0);
        t.boot(0);
        t.tick(60);
        Check.due("14: two zombies", t.count(1), 2);
        Check.due("9: JOIN of a zombie", t.register(1, 1), -3);
        Check.due("9: JOIN of a zombie that did EXEC, to no group", t.register(1, 2), -3);
        Check.due("8: its group stays", t.told(2, 2), 1);
    }

    /** "-13: a child that did EXEC", ahead of -1; not of its own program only, nor of one that was refused. */
    private static void joinOfOneThatDidExec() {
        for (int group : new int[] {0, 1, 2, 77}) {
            ProcessTable t = new ProcessTable();
            new Acts().fork(0, "second").idle(9).set(1, 2).set(2, group).op(Check.JOIN, 1, 2).at("sleep").sleep()
                .at("second").op(Check.EXEC, 1, 1).load(t, 0);
            new Acts().op(Check.JOIN, 3, 3).fork(4, "sleep").op(Check.MOVE, 5, 4).op(Check.JOIN, 5, 6)
                .at("sleep").sleep().load(t, 1);
            t.boot(0);
            t.tick(60);
            Check.due("9: JOIN to " + group, t.register(1, 1), -13);
            Check.due("9: itself it joins", t.register(2, 3), 0);
            Check.due("8: its group", t.told(2, 2), 2);
            Check.due("9: and its child that did none", t.register(2, 5), 0);
            Check.due("8: that one's group", t.told(3, 2), 3);
        }
        ProcessTable refused = new Acts().fork(0, "second").idle(9).set(1, 2).op(Check.JOIN, 1, 2).sleep()
            .at("second").op(Check.EXEC, 1, -1).sleep().boot(60);
        Check.due("9: an EXEC that was refused", refused.register(1, 1), 0);
        ProcessTable same = new Acts().zero(5, "begin").sleep().at("begin").set(5, 5).fork(0, "second").idle(9)
            .set(1, 2).op(Check.JOIN, 1, 2).sleep().at("second").op(Check.EXEC, 1, 0).boot(60);
        Check.due("9: an EXEC of the same program", same.register(1, 1), -13);
    }

    /** "-1: rb is neither its PID nor the GROUP of some PROCESS"; "its PID" is the one's that is joined. */
    private static void joinToNoGroup() {
        for (int group : new int[] {3, 4, 5, 999, -1, -2, Check.MIN, Check.MAX}) {
            joined("5: JOIN of itself to " + group, joiner(0, group), -1, 0, 0);
        }
        for (int group : new int[] {2, 3, 5, -1, -4, Check.MIN}) {
            joined("5: JOIN of its child to " + group, joiner(4, group), -1, 0, 0);
        }
        // 3 was of group 3, and is freed: so is its group.
        ProcessTable gone = child().op(Check.ACTION, 17, 1).fork(3, "third").idle(6).set(2, 3).op(Check.JOIN, 1, 2)
            .sleep().at("third").op(Check.JOIN, 1, 1).op(Check.EXIT, 1).boot(60);
        Check.due("8: PID 3 is freed", gone.told(3, 0), Check.UNKNOWN);
        Check.due("12: no member of group 3", gone.members(3), 0);
        Check.due("9: JOIN to a group that is no more", gone.register(2, 1), -1);
    }
}
