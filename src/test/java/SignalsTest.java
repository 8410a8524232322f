/** Promises 5, 6 (kill), 10 (action): what signals do, KILL, ACTION, MASK, PAUSE, RETURN, handlers. */
public final class SignalsTest {
    private static final int ALL_BLOCKABLE = 0x1FFFFE & ~(1 << 9) & ~(1 << 19);

    public static void main(String[] args) {
        killRefuses();
        byThemselves();
        nothingToPidOne();
        ignored();
        actionRefuses();
        toAZombie();
        blockedArePending();
        contAndStopTakeEachOther();
        maskLetsThrough();
        maskLetsAStopThrough();
        actionLetsThrough();
        returnLetsThrough();
        stoppedGoesOn();
        stoppedMayEnd();
        stoppedKeepsHandled();
        pauseIsInterrupted();
        waitIsInterrupted();
        interruptKnowsTheWipedAct();
        blockedInterruptsNot();
        childEndsAheadOfItsSignal();
        leastSignalBegins();
        lastSignalBegins();
        handlersNest();
        fifthHandlerEnds();
        fifthHandlerOfPidOne();
        handlerThatIsNoAct();
        returnWithoutHandler();
        killOp();
        killOpRefuses();
        killOpAllButItself();
        killOpOwnGroup();
        killOpOfPidOne();
        Check.finish();
    }

    private static void killRefuses() {
        ProcessTable t = Check.withChild();
        for (int pid : new int[] {0, -1, 3, 1000, Check.MIN, Check.MAX}) {
            Check.due("6: kill PID " + pid, t.kill(pid, 9), Check.UNKNOWN);
            Check.due("10: action of PID " + pid, t.action(pid, 9), Check.UNKNOWN);
        }
        for (int s : new int[] {0, -1, 21, Check.MIN, Check.MAX}) {
            Check.due("6: kill signal " + s, t.kill(2, s), Check.OUTSIDE);
            Check.due("10: action of signal " + s, t.action(2, s), Check.OUTSIDE);
            Check.due("6: UNKNOWN ahead of OUTSIDE", t.kill(3, s), Check.UNKNOWN);
            Check.due("10: UNKNOWN ahead of OUTSIDE", t.action(3, s), Check.UNKNOWN);
        }
        Check.due("6: a refusal sends nothing", t.count(7), 0);
    }

    private static void byThemselves() {
        for (int s = 1; s <= 20; s++) {
            ProcessTable t = Check.withChild();
            Check.due("6: kill " + s, t.kill(2, s), 1);
            boolean nothing = s == 17 || s == 18;
            boolean stops = s == 19 || s == 20;
            int state = nothing ? Check.PAUSED : stops ? Check.STOPPED : Check.ZOMBIE;
            Check.due("6: state by " + s, t.told(2, 0), state);
            Check.due("6: how it ended by " + s, t.told(2, Check.HOW_ENDED), nothing || stops ? 0 : s);
            Check.due("6: sent by " + s, t.count(7), nothing ? 1 : 2);
            Check.due("6: ended by " + s, t.count(6), nothing || stops ? 0 : 1);
            Check.due("6: nothing pending by " + s, t.told(2, Check.PENDING), 0);
        }
    }

    private static void nothingToPidOne() {
        ProcessTable t = Check.withChild();
        for (int s = 1; s <= 20; s++) {
            Check.due("6: kill PID 1 by " + s, t.kill(1, s), 1);
            Check.due("6: PID 1 by " + s, t.told(1, 0), Check.PAUSED);
            Check.due("6: sent", t.count(7), s);
        }
        Check.due("6: no panic", t.count(9), 0);

        // What it blocks is pending, and comes to nothing when it is let through.
        ProcessTable blocking = Check.booted(Check.SET, 0, -1, Check.MASK, 0, 0, Check.IDLE, 0, 0, Check.MASK, 0, 0,
            Check.PAUSE, 7, 0);
        blocking.tick(3);
        blocking.kill(1, 15);
        blocking.kill(1, 20);
        Check.due("6: pending at PID 1", blocking.told(1, Check.PENDING), 1 << 15 | 1 << 20);
        blocking.tick(1);
        Check.due("6: pending no more", blocking.told(1, Check.PENDING), 0);
        Check.due("6: nothing happened", blocking.told(1, 0), Check.READY);
    }

    private static void ignored() {
        int[] acts = new int[60];
        for (int s = 1; s <= 20; s++) {
            acts[3 * s - 3] = Check.ACTION;
            acts[3 * s - 2] = s;
            acts[3 * s - 1] = 1;
        }
        for (int s = 1; s <= 20; s++) {
            ProcessTable t = Check.withChild(acts);
            boolean never = s == 9 || s == 19;
            Check.due("10: action " + s, t.action(2, s), never ? 0 : 1);
            t.kill(2, s);
            int state = s == 9 ? Check.ZOMBIE : s == 19 ? Check.STOPPED : Check.PAUSED;
            Check.due("6: ignored " + s, t.told(2, 0), state);
        }
    }

    private static void actionRefuses() {
        int[] signals = {0, -1, 21, 9, 19, Check.MIN, Check.MAX};
        for (int s : signals) {
            ProcessTable t = Check.withChild(Check.ACTION, s, 1, Check.ACTION, s, 5);
            for (int other = 1; other <= 20; other++) {
                Check.due("10: ACTION of " + s + ", action " + other, t.action(2, other), 0);
            }
        }
        ProcessTable t = Check.withChild(Check.ACTION, 15, 5, Check.ACTION, 15, -1, Check.ACTION, 16, Check.MIN,
            Check.ACTION, 14, 2, Check.ACTION, 13, 3, Check.ACTION, 13, 0);
        Check.due("10: below 0 changes nothing", t.action(2, 15), 5);
        Check.due("10: nor here", t.action(2, 16), 0);
        Check.due("10: the handler at act 0", t.action(2, 14), 2);
        Check.due("10: back to 0", t.action(2, 13), 0);
    }

    private static void toAZombie() {
        ProcessTable t = Check.withChild();
        t.kill(2, 15);
        for (int s = 1; s <= 20; s++) {
            Check.due("6: kill a zombie", t.kill(2, s), 1);
            Check.due("6: it stays so", t.told(2, 0), Check.ZOMBIE);
            Check.due("6: as it ended", t.told(2, Check.HOW_ENDED), 15);
            Check.due("6: nothing pending", t.told(2, Check.PENDING), 0);
        }
        Check.due("6: they were sent", t.count(7), 22);
    }

    private static void blockedArePending() {
        ProcessTable t = Check.withChild(Check.SET, 3, -1, Check.MASK, 3, 0, Check.SET, 4, 1 << 5, Check.MASK, 4, 0,
            Check.SET, 5, -1, Check.MASK, 5, 0);
        Check.due("5: MASK, ra is what it was", t.register(2, 3), 0);
        Check.due("5: MASK, then all", t.register(2, 4), ALL_BLOCKABLE);
        Check.due("5: MASK, then one", t.register(2, 5), 1 << 5);
        Check.due("5: BLOCKED", t.told(2, Check.BLOCKED), ALL_BLOCKABLE);
        int pending = 0;
        for (int s = 1; s <= 17; s++) {
            if (s != 9) {
                pending |= 1 << s;
                t.kill(2, s);
                Check.due("6: pending", t.told(2, Check.PENDING), pending);
                Check.due("6: paused still", t.told(2, 0), Check.PAUSED);
            }
        }
        t.kill(2, 9);
        Check.due("6: KILL is never blocked", t.told(2, Check.HOW_ENDED), 9);
        Check.due("6: nothing pending of a zombie", t.told(2, Check.PENDING), 0);
        Check.due("6: BLOCKED stays as it was", t.told(2, Check.BLOCKED), ALL_BLOCKABLE);
    }

    private static void contAndStopTakeEachOther() {
        ProcessTable t = Check.withChild(Check.ACTION, 18, 1, Check.ACTION, 20, 1, Check.SET, 3, -1, Check.MASK, 3, 0);
        t.kill(2, 20);
        Check.due("6: TSTP pending", t.told(2, Check.PENDING), 1 << 20);
        t.kill(2, 18);
        Check.due("6: CONT takes it", t.told(2, Check.PENDING), 1 << 18);
        t.kill(2, 20);
        Check.due("6: TSTP takes CONT", t.told(2, Check.PENDING), 1 << 20);
        t.kill(2, 18);
        t.kill(2, 19);
        Check.due("6: STOP takes CONT", t.told(2, Check.PENDING), 0);
        Check.due("6: and stops", t.told(2, 0), Check.STOPPED);
        t.kill(2, 18);
        Check.due("6: a blocked CONT lets it go on", t.told(2, 0), Check.READY);
        Check.due("6: and is pending", t.told(2, Check.PENDING), 1 << 18);
    }

    private static void maskLetsThrough() {
        ProcessTable t = maskedFor(20);
        t.kill(2, 15);
        t.kill(2, 3);
        t.kill(2, 17);
        Check.due("6: kept", t.told(2, Check.PENDING), 1 << 15 | 1 << 3 | 1 << 17);
        int sent = t.count(7);
        t.tick(40);
        Check.due("5: the least ended it", t.told(2, Check.HOW_ENDED), 3);
        Check.due("5: only CHLD was sent anew", t.count(7), sent + 1);
    }

    /** PID 2 blocks all, idles some turns, and blocks none any more (act 4 + 2 + idle is that MASK). */
    private static ProcessTable maskedFor(int idle) {
        int[] acts = new int[3 * (idle + 3)];
        int[] start = {Check.SET, 3, -1, Check.MASK, 3, 0};
        System.arraycopy(start, 0, acts, 0, 6);
        for (int i = 0; i < idle; i++) {
            acts[6 + 3 * i] = Check.IDLE;
        }
        acts[6 + 3 * idle] = Check.MASK;
        acts[7 + 3 * idle] = 4;
        ProcessTable t = Check.booted();
        t.wipe(0);
        Check.load(t, 0, Check.FORK, 0, 0, Check.ZERO, 0, 4, Check.PAUSE, 7, 0, Check.JUMP, 2, 0);
        Check.load(t, 0, acts);
        Check.load(t, 0, Check.PAUSE, 6, 0);
        t.tick(10);
        return t;
    }

    private static void maskLetsAStopThrough() {
        ProcessTable t = maskedFor(20);
        t.kill(2, 20);
        t.kill(2, 17);
        int sent = t.count(7);
        t.tick(40);
        Check.due("5: stopped behind MASK", t.told(2, 0), Check.STOPPED);
        Check.due("5: behind that act", t.told(2, Check.NEXT), 27);
        Check.due("5: nothing pending", t.told(2, Check.PENDING), 0);
        Check.due("5: CHLD of the stop", t.count(7), sent + 1);
    }

    private static void actionLetsThrough() {
        // A blocked signal with a handler: neither ACTION nor EXEC lets it through while it is blocked.
        ProcessTable t = Check.withChild(Check.ACTION, 15, 2, Check.SET, 3, 1 << 15, Check.MASK, 3, 0,
            Check.ACTION, 10, 2 + 9, Check.PAUSE, 5, 0, Check.ACTION, 15, 0, Check.MASK, 3, 0);
        t.kill(2, 15);
        Check.due("6: pending", t.told(2, Check.PENDING), 1 << 15);
        Check.due("6: paused still", t.told(2, 0), Check.PAUSED);
        t.kill(2, 10);
        t.tick(2);
        Check.due("5: ACTION 0 alone leaves it", t.told(2, Check.PENDING), 1 << 15);
        t.tick(1);
        Check.due("5: MASK then ends it", t.told(2, Check.HOW_ENDED), 15);
    }

    private static void returnLetsThrough() {
        // The handler of 10 sets 10 to nothing, gets another 10, which comes to nothing at RETURN.
        ProcessTable t = Check.withChild(Check.ACTION, 10, 2 + 7, Check.PAUSE, 5, 0, Check.JUMP, 5, 0,
            Check.ACTION, 10, 0, Check.IDLE, 0, 0, Check.RETURN, 0, 0);
        t.kill(2, 10);
        t.tick(2);
        t.kill(2, 10);
        Check.due("6: pending, blocked by its handler", t.told(2, Check.PENDING), 1 << 10);
        t.tick(1);
        Check.due("5: not yet", t.told(2, 0), Check.READY);
        t.tick(1);
        Check.due("5: behind RETURN it ends", t.told(2, Check.HOW_ENDED), 10);
    }

    private static void stoppedGoesOn() {
        ProcessTable t = Check.withChild();
        t.kill(2, 19);
        Check.due("6: stopped", t.told(2, 0), Check.STOPPED);
        Check.due("6: nobody's turn", t.tick(3), 0);
        int sent = t.count(7);
        t.kill(2, 20);
        Check.due("6: stays so, no CHLD", t.count(7), sent + 1);
        t.kill(2, 18);
        Check.due("6: goes on", t.told(2, 0), Check.READY);
        Check.due("6: no CHLD by that", t.count(7), sent + 2);
        Check.due("6: PAUSE is next again", t.told(2, Check.NEXT), 4);
        Check.due("6: its turn", t.tick(5), 1);
        Check.due("6: paused again", t.told(2, 0), Check.PAUSED);
        Check.due("6: not interrupted", t.register(2, 6), 0);
    }

    private static void stoppedMayEnd() {
        ProcessTable t = Check.withChild();
        t.kill(2, 20);
        t.kill(2, 15);
        Check.due("6: ended while stopped", t.told(2, 0), Check.ZOMBIE);
        t.kill(2, 18);
        Check.due("6: and stays so", t.told(2, 0), Check.ZOMBIE);
    }

    private static void stoppedKeepsHandled() {
        ProcessTable t = Check.withChild(Check.ACTION, 10, 2 + 7);
        t.kill(2, 19);
        t.kill(2, 10);
        Check.due("6: stopped still", t.told(2, 0), Check.STOPPED);
        Check.due("6: pending", t.told(2, Check.PENDING), 1 << 10);
        Check.due("6: nobody's turn", t.tick(3), 0);
        t.kill(2, 18);
        Check.due("6: not interrupted", t.register(2, 6), 0);
        t.tick(1);
        Check.due("6: the handler begins", t.told(2, Check.HANDLERS), 1);
        Check.due("6: at its act", t.told(2, Check.NEXT), 7);
    }

    private static void pauseIsInterrupted() {
        ProcessTable t = Check.withChild(Check.ACTION, 10, 2 + 5);
        Check.due("6: paused, PAUSE is next", t.told(2, Check.NEXT), 5);
        t.kill(2, 10);
        Check.due("6: READY", t.told(2, 0), Check.READY);
        Check.due("6: register a is -4", t.register(2, 6), -4);
        Check.due("6: the act behind is next", t.told(2, Check.NEXT), 6);
        Check.due("6: pending till its turn", t.told(2, Check.PENDING), 1 << 10);
        Check.due("8: none began yet", t.count(8), 0);
        t.tick(1);
        Check.due("8: one began", t.count(8), 1);
        Check.due("6: pending no more", t.told(2, Check.PENDING), 0);
        Check.due("6: blocked meanwhile", t.told(2, Check.BLOCKED), 1 << 10);
    }

    private static void waitIsInterrupted() {
        for (int op : new int[] {Check.WAIT, Check.WATCH}) {
            ProcessTable t = Check.booted(Check.ACTION, 10, 2 + 6, Check.FORK, 0, 0, Check.ZERO, 0, 7,
                Check.SET, 1, -1, op, 1, 2, Check.PAUSE, 3, 0, Check.RETURN, 0, 0, Check.PAUSE, 4, 0);
            t.tick(20);
            Check.due("6: waiting", t.told(1, 0), Check.WAITING);
            t.kill(1, 10);
            Check.due("6: interrupted", t.register(1, 1), -4);
            Check.due("6: rb stays", t.register(1, 2), 0);
            Check.due("6: READY", t.told(1, 0), Check.READY);
            t.tick(3);
            Check.due("6: behind RETURN the act behind", t.told(1, Check.NEXT), 5);
            Check.due("6: paused there", t.told(1, 0), Check.PAUSED);
        }
    }

    private static void interruptKnowsTheWipedAct() {
        ProcessTable t = Check.booted(Check.ACTION, 10, 2, Check.PAUSE, 5, 0);
        t.tick(2);
        t.wipe(0);
        Check.load(t, 0, Check.IDLE, 0, 0, Check.SET, 3, 3);
        t.kill(1, 10);
        Check.due("6: register a of the act that paused", t.register(1, 5), -4);
        Check.due("6: not of the one that is there now", t.register(1, 3), 0);
    }

    private static void blockedInterruptsNot() {
        ProcessTable t = Check.withChild(Check.ACTION, 10, 2, Check.SET, 3, 1 << 10, Check.MASK, 3, 0);
        t.kill(2, 10);
        Check.due("6: blocked, paused still", t.told(2, 0), Check.PAUSED);
        Check.due("6: no turn", t.tick(2), 0);
        t.kill(2, 17);
        t.kill(2, 18);
        Check.due("6: what does nothing leaves it", t.told(2, 0), Check.PAUSED);
    }

    private static void childEndsAheadOfItsSignal() {
        // PID 1 has a handler of CHLD and waits: it is READY as soon as the child ends, not interrupted.
        ProcessTable t = Check.booted(Check.ACTION, 17, 2 + 6, Check.FORK, 0, 0, Check.ZERO, 0, 7,
            Check.SET, 1, -1, Check.WAIT, 1, 2, Check.PAUSE, 3, 0, Check.RETURN, 0, 0, Check.PAUSE, 4, 0);
        t.tick(20);
        t.kill(2, 9);
        Check.due("5: not interrupted", t.register(1, 1), -1);
        Check.due("5: WAIT is next still", t.told(1, Check.NEXT), 4);
        t.tick(1);
        Check.due("5: the handler first", t.told(1, Check.HANDLERS), 1);
        t.tick(2);
        Check.due("5: then WAIT", t.register(1, 1), 2);
        Check.due("5: how", t.register(1, 2), 9);
    }

    private static void leastSignalBegins() {
        ProcessTable t = Check.withChild(Check.ACTION, 12, 2 + 20, Check.ACTION, 3, 2 + 30);
        t.kill(2, 12);
        t.kill(2, 3);
        t.tick(1);
        Check.due("5: the least first", t.told(2, Check.NEXT), 30);
        Check.due("5: the other is pending", t.told(2, Check.PENDING), 1 << 12);
        t.tick(1);
        Check.due("5: the other interrupts the handler", t.told(2, Check.NEXT), 20);
        Check.due("5: two under way", t.told(2, Check.HANDLERS), 2);
        Check.due("5: both blocked", t.told(2, Check.BLOCKED), 1 << 12 | 1 << 3);
    }

    private static void lastSignalBegins() {
        ProcessTable t = Check.withChild(Check.ACTION, 20, 2 + 30);
        t.kill(2, 20);
        Check.due("6: a handled TSTP stops nobody", t.told(2, 0), Check.READY);
        t.tick(1);
        Check.due("5: its handler", t.told(2, Check.NEXT), 30);
    }

    /** PID 2 handles 1 .. 5 at act 12 (IDLE, then RETURN). */
    private static ProcessTable handlingFive() {
        ProcessTable t = Check.withChild(Check.ACTION, 1, 2 + 12, Check.ACTION, 2, 2 + 12, Check.ACTION, 3, 2 + 12,
            Check.ACTION, 4, 2 + 12, Check.ACTION, 5, 2 + 12, Check.JUMP, 14, 0, Check.IDLE, 0, 0, Check.IDLE, 0, 0,
            Check.IDLE, 0, 0, Check.RETURN, 0, 0);
        return t;
    }

    private static void handlersNest() {
        ProcessTable t = handlingFive();
        t.tick(20);
        Check.due("5: paused", t.told(2, 0), Check.PAUSED);
        for (int s = 1; s <= 4; s++) {
            t.kill(2, s);
        }
        t.tick(4);
        Check.due("5: four under way", t.told(2, Check.HANDLERS), 4);
        Check.due("5: all blocked", t.told(2, Check.BLOCKED), 0x1E);
        int[] blocked = {0xE, 0x6, 0x2, 0};
        int[] next = {12, 12, 12, 15};
        for (int i = 0; i < 4; i++) {
            t.tick(2);
            Check.due("5: handlers behind RETURN", t.told(2, Check.HANDLERS), 3 - i);
            Check.due("5: blocked behind RETURN", t.told(2, Check.BLOCKED), blocked[i]);
            Check.due("5: next behind RETURN", t.told(2, Check.NEXT), next[i]);
        }
        Check.due("5: four began", t.count(8), 4);
    }

    private static void fifthHandlerEnds() {
        ProcessTable t = handlingFive();
        t.tick(20);
        for (int s = 1; s <= 5; s++) {
            t.kill(2, s);
        }
        int sent = t.count(7);
        t.tick(4);
        Check.due("5: four under way", t.told(2, Check.HANDLERS), 4);
        Check.due("5: the turn of the end", t.tick(1), 1);
        Check.due("5: ended by SIGNAL 11", t.told(2, Check.HOW_ENDED), 11);
        Check.due("5: nothing pending", t.told(2, Check.PENDING), 0);
        Check.due("5: the fifth did not begin", t.count(8), 4);
        Check.due("5: only CHLD was sent", t.count(7), sent + 1);
    }

    private static void fifthHandlerOfPidOne() {
        ProcessTable t = Check.booted(Check.ACTION, 1, 9, Check.ACTION, 2, 9, Check.ACTION, 3, 9, Check.ACTION, 4, 9,
            Check.ACTION, 5, 9, Check.SET, 1, 99, Check.ALARM, 1, 0, Check.PAUSE, 0, 0);
        t.tick(8);
        for (int s = 1; s <= 5; s++) {
            t.kill(1, s);
        }
        t.tick(4);
        Check.due("5: PID 1 lives", t.told(1, Check.HANDLERS), 4);
        t.tick(1);
        Check.due("5: PID 1 ended too", t.count(9), 1);
        t.boot(0);
        for (int what = Check.NEXT; what <= Check.HOW_ENDED; what++) {
            Check.due("4: all at its beginning, told " + what, t.told(1, what), 0);
        }
    }

    private static void handlerThatIsNoAct() {
        ProcessTable t = Check.withChild(Check.ACTION, 10, Check.MAX);
        Check.due("10: any act", t.action(2, 10), Check.MAX);
        t.kill(2, 10);
        t.tick(1);
        Check.due("5: its act is next", t.told(2, Check.NEXT), Check.MAX - 2);
        t.tick(1);
        Check.due("5: there is no such act", t.told(2, 0), Check.ZOMBIE);
        Check.due("5: status 0", t.told(2, Check.HOW_ENDED), 0);
    }

    private static void returnWithoutHandler() {
        ProcessTable t = Check.withChild(Check.SET, 0, 5, Check.RETURN, 0, 0);
        Check.due("5: RETURN ends it", t.told(2, 0), Check.ZOMBIE);
        Check.due("5: with status 0", t.told(2, Check.HOW_ENDED), 0);
    }

    /** PID 1 forks 2, 3 (group 3), 4, then does KILL with register 1 being meant, register 2 the signal. */
    private static ProcessTable killer(int meant, int s) {
        ProcessTable t = Check.booted(
            Check.FORK, 0, 0, Check.ZERO, 0, 13, Check.FORK, 0, 0, Check.ZERO, 0, 12, Check.FORK, 0, 0,
            Check.ZERO, 0, 13, Check.SET, 1, meant, Check.SET, 2, s, Check.IDLE, 0, 0, Check.KILL, 1, 2,
            Check.PAUSE, 7, 0, Check.JUMP, 10, 0, Check.JOIN, 3, 3, Check.PAUSE, 6, 0, Check.JUMP, 13, 0);
        t.tick(40);
        return t;
    }

    private static void killed(String what, ProcessTable t, boolean two, boolean three, boolean four) {
        Check.due(what + " ra", t.register(1, 1), two || three || four ? 0 : -3);
        Check.due(what + " PID 2", t.told(2, 0), two ? Check.ZOMBIE : Check.PAUSED);
        Check.due(what + " PID 3", t.told(3, 0), three ? Check.ZOMBIE : Check.PAUSED);
        Check.due(what + " PID 4", t.told(4, 0), four ? Check.ZOMBIE : Check.PAUSED);
        Check.due(what + " PID 1", t.told(1, 0), Check.PAUSED);
    }

    private static void killOp() {
        killed("5: KILL 4:", killer(4, 9), false, false, true);
        killed("5: KILL 0:", killer(0, 9), true, false, true);
        killed("5: KILL -1:", killer(-1, 9), true, true, true);
        killed("5: KILL -3:", killer(-3, 9), false, true, false);
        killed("5: KILL 5:", killer(5, 9), false, false, false);
        killed("5: KILL -4:", killer(-4, 9), false, false, false);
        killed("5: KILL MIN:", killer(Check.MIN, 9), false, false, false);
        Check.due("5: KILL 0 sends to itself, too", killer(0, 9).count(7), 3 + 2);
        Check.due("5: KILL -1 spares itself", killer(-1, 9).count(7), 3 + 3);
        Check.due("5: KILL 4, how", killer(4, 15).told(4, Check.HOW_ENDED), 15);
    }

    private static void killOpRefuses() {
        for (int s : new int[] {-1, 21, Check.MIN, Check.MAX}) {
            Check.due("5: KILL by " + s, killer(4, s).register(1, 1), -22);
            Check.due("5: -22 ahead of -3", killer(5, s).register(1, 1), -22);
        }
        ProcessTable probe = killer(4, 0);
        Check.due("5: KILL by 0", probe.register(1, 1), 0);
        Check.due("5: none is sent", probe.count(7), 0);
        Check.due("5: KILL by 0, none such", killer(5, 0).register(1, 1), -3);
        Check.due("5: KILL by 20", killer(4, 20).told(4, 0), Check.STOPPED);
    }

    private static void killOpAllButItself() {
        // PID 2 kills all but itself and PID 1: first there is none such, in the other run there is a zombie.
        ProcessTable t = Check.withChild(Check.SET, 1, -1, Check.SET, 2, 9, Check.KILL, 1, 2);
        Check.due("5: none but itself and PID 1", t.register(2, 1), -3);
        ProcessTable zombie = Check.withChild(Check.SET, 1, -1, Check.SET, 2, 9, Check.IDLE, 0, 0, Check.FORK, 3, 0,
            Check.ZERO, 3, 13, Check.IDLE, 0, 0, Check.IDLE, 0, 0, Check.KILL, 1, 2, Check.PAUSE, 6, 0,
            Check.EXIT, 3, 0);
        zombie.tick(20);
        Check.due("5: PID 3 ended by itself", zombie.told(3, Check.HOW_ENDED), 0);
        Check.due("5: zombies are such, too", zombie.register(2, 1), 0);
        Check.due("5: sent to the zombie, too", zombie.count(7), 2);
    }

    private static void killOpOwnGroup() {
        // PID 2 joins group 2, forks PID 3 and kills its group, itself first by entries.
        ProcessTable t = Check.withChild(Check.JOIN, 3, 3, Check.FORK, 3, 0, Check.ZERO, 3, 13, Check.SET, 1, 0,
            Check.SET, 2, 15, Check.KILL, 1, 2, Check.IDLE, 0, 0, Check.IDLE, 0, 0, Check.IDLE, 0, 0,
            Check.PAUSE, 6, 0);
        t.tick(30);
        Check.due("5: itself", t.told(2, Check.HOW_ENDED), 15);
        Check.due("5: ra was 0 ahead of that", t.register(2, 1), 0);
        Check.due("5: the act behind KILL was next", t.told(2, Check.NEXT), 10);
        Check.due("5: the other", t.told(3, Check.HOW_ENDED), 15);
        Check.due("5: whose parent is 1 now", t.told(3, 1), 1);
        Check.due("5: 2 by KILL, 2 by what ended", t.count(7), 4);
    }

    private static void killOpOfPidOne() {
        // PID 2 sends 10 to PID 1, that has a handler of it.
        ProcessTable t = Check.booted(Check.ACTION, 10, 2 + 4, Check.FORK, 0, 0, Check.ZERO, 0, 5, Check.PAUSE, 7, 0,
            Check.PAUSE, 5, 0, Check.SET, 1, 1, Check.SET, 2, 10, Check.KILL, 1, 2, Check.PAUSE, 6, 0);
        t.tick(20);
        Check.due("5: KILL 1, ra", t.register(2, 1), 0);
        Check.due("5: PID 1 is interrupted", t.register(1, 7), -4);
        Check.due("5: its handler began", t.told(1, Check.HANDLERS), 1);
        Check.due("5: sent to PID 1 only", t.count(7), 1);
    }
}
