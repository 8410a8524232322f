/** 'Terms', block 2: what signals do, pending and blocked ones, interruptions, the row; at their edges. */
public final class SignalEdgesTest {
    /** The register that PID 2 of these tests waits or pauses by. */
    private static final int BY = 5;
    private static final int[] STATES = {Check.READY, Check.WAITING, Check.PAUSED, Check.STOPPED};
    private static final int[] SLEEPS = {Check.WAITING, Check.PAUSED};

    public static void main(String[] args) {
        byItselfInEachState();
        nothingInEachState();
        killAndStopAreAlwaysThemselves();
        killAndStopAreNeverBlocked();
        toAZombieNothing();
        contTakesStops();
        contTakesAHandledStop();
        stopsTakeCont();
        contLetsGoOnWhateverItDoes();
        blockedOrHandledIsPending();
        pendingIsOneBit();
        stoppedStaysSo();
        stoppedFromEachState();
        nothingToPidOne();
        pidOneHandles();
        handledInterrupts();
        interruptedOnce();
        interruptedRegisterIsModulo8();
        whatInterruptsNot();
        maskLetsTheLeastHappen();
        maskPassesIgnoredOnes();
        maskLeavesHandledAndBlocked();
        returnLetsThemHappen();
        behindAnActToPidOne();
        rowIsDoneInItsOrder();
        rowIsDoneBehindItsAct();
        rowIsDoneOnce();
        Check.finish();
    }

    private static Acts child() {
        return new Acts().fork(0, "child").sleep().at("child");
    }

    /** PID 1 sleeps, PID 2 has done these acts and is in that state since; PID 3 is its child, if it is WAITING. */
    private static ProcessTable in(int state, Acts child) {
        if (state == Check.READY) {
            return child.at("loop").jump("loop").boot(30);
        }
        if (state == Check.WAITING) {
            ProcessTable t = child.op(Check.FORK, 4).zero(4, "grandchild").set(BY, -1).at("by").op(Check.WAIT, BY, 6)
                .at("behind").sleep().at("grandchild").sleep().boot(50);
            Check.due("5: waiting", t.told(2, 0), Check.WAITING);
            return t;
        }
        ProcessTable t = child.at("by").op(Check.PAUSE, BY).at("behind").sleep().boot(50);
        if (state == Check.STOPPED) {
            t.kill(2, 19);
        }
        Check.due("5: the state of the test", t.told(2, 0), state);
        return t;
    }

    private static boolean stops(int s) {
        return s == 19 || s == 20;
    }

    /** "By themselves: 17 (CHLD) does nothing; 18 (CONT) nothing ..; 19, 20 STOP; all others END." */
    private static void byItselfInEachState() {
        for (int state : STATES) {
            for (int s = 1; s <= 20; s++) {
                ProcessTable t = in(state, child());
                String what = "6: state " + state + " by " + s;
                int sent = t.count(7);
                int register = t.register(2, BY);
                boolean goesOn = s == 18 && state == Check.STOPPED;
                int ends = s == 17 || s == 18 || stops(s) ? 0 : 1;
                int want = ends == 1 ? Check.ZOMBIE : stops(s) ? Check.STOPPED : goesOn ? Check.READY : state;
                Check.due(what + ", kill", t.kill(2, s), 1);
                Check.due(what, t.told(2, 0), want);
                Check.due(what + ", how it ended", t.told(2, Check.HOW_ENDED), ends * s);
                Check.due(what + ", ended", t.count(6), ends);
                Check.due(what + ", pending", t.told(2, Check.PENDING), 0);
                Check.due(what + ", not interrupted", t.register(2, BY), register);
                boolean tells = ends == 1 || stops(s) && state != Check.STOPPED;
                Check.due(what + ", sent", t.count(7) - sent, tells ? 2 : 1);
            }
        }
    }

    /** "what it DOES: .. 1 nothing". */
    private static void nothingInEachState() {
        for (int state : STATES) {
            Acts acts = child();
            for (int s = 1; s <= 20; s++) {
                acts.op(Check.ACTION, s, 1);
            }
            ProcessTable t = in(state, acts);
            int sent = t.count(7);
            for (int s = 1; s <= 17; s++) {
                if (s != 9) {
                    t.kill(2, s);
                    Check.due("6: nothing by " + s, t.told(2, 0), state);
                    Check.due("6: nothing pending by " + s, t.told(2, Check.PENDING), 0);
                }
            }
            t.kill(2, 20);
            Check.due("6: nothing by 20", t.told(2, 0), state);
            Check.due("6: sent", t.count(7) - sent, 17);
            t.kill(2, 18);
            Check.due("6: by 18", t.told(2, 0), state == Check.STOPPED ? Check.READY : state);
        }
    }

    /** "What 9 (KILL), 19 do is always 0". */
    private static void killAndStopAreAlwaysThemselves() {
        for (int s : new int[] {9, 19}) {
            for (int does : new int[] {1, 2, 3, 9, Check.MAX}) {
                ProcessTable t = in(Check.PAUSED, child().op(Check.ACTION, s, does));
                Check.due("10: action " + s, t.action(2, s), 0);
                t.kill(2, s);
                Check.due("6: by " + s, t.told(2, 0), s == 9 ? Check.ZOMBIE : Check.STOPPED);
            }
        }
    }

    /** "they are never BLOCKED". */
    private static void killAndStopAreNeverBlocked() {
        for (int bits : new int[] {1 << 9 | 1 << 19, -1, 1 << 9, 1 << 19}) {
            ProcessTable t = in(Check.PAUSED, child().mask(1, bits));
            int blocked = bits == -1 ? 0x1FFFFE & ~(1 << 9 | 1 << 19) : 0;
            Check.due("8: blocked by " + bits, t.told(2, Check.BLOCKED), blocked);
            t.kill(2, 19);
            Check.due("6: stopped", t.told(2, 0), Check.STOPPED);
            t.kill(2, 9);
            Check.due("6: ended", t.told(2, Check.HOW_ENDED), 9);
        }
    }

    /** "(to a ZOMBIE nothing happens)", but it was SENT; also of one that blocked or handled it. */
    private static void toAZombieNothing() {
        ProcessTable t = in(Check.PAUSED, child().handle(10, "child").mask(1, 1 << 15).alarm(2, 100));
        t.kill(2, 9);
        String before = Check.snapshot(t).replaceAll("^( count \\S+){10}", "");
        int sent = t.count(7);
        for (int s = 1; s <= 20; s++) {
            Check.due("6: kill " + s, t.kill(2, s), 1);
        }
        Check.due("14: they were sent", t.count(7), sent + 20);
        Check.same("a zombie", Check.snapshot(t).replaceAll("^( count \\S+){10}", ""), before);
        Check.due("5: nobody's turn", t.tick(150), 0);
        Check.due("14: ended once", t.count(6), 1);
    }

    /** What a signal is to PID 2, as with() makes it. */
    private static final int BY_ITSELF = 0, IGNORED = 1, HANDLED = 2;
    private static final int BLOCKED = 3, BLOCKED_HANDLED = 4, BLOCKED_IGNORED = 5;

    /** PID 2 has signal s so, and the bits of other BLOCKED, too. */
    private static Acts with(int s, int how, int other) {
        int bits = other | (how >= BLOCKED ? 1 << s : 0);
        Acts acts = child().mask(1, bits);
        if (how == IGNORED || how == BLOCKED_IGNORED) {
            acts.op(Check.ACTION, s, 1);
        }
        return how == HANDLED || how == BLOCKED_HANDLED ? acts.handle(s, "by") : acts;
    }

    private static int kept(int s, int how) {
        return how == BY_ITSELF || how == IGNORED ? 0 : 1 << s;
    }

    /** "18 takes 19, 20 from PENDING .. (whatever they do)". */
    private static void contTakesStops() {
        for (int how = BY_ITSELF; how <= BLOCKED_IGNORED; how++) {
            ProcessTable t = in(Check.PAUSED, with(18, how, 1 << 20 | 1 << 3));
            t.kill(2, 20);
            t.kill(2, 3);
            Check.due("6: 20 is pending", t.told(2, Check.PENDING), 1 << 20 | 1 << 3);
            t.kill(2, 18);
            Check.due("6: 18 takes it, as " + how, t.told(2, Check.PENDING), kept(18, how) | 1 << 3);
            Check.due("6: its state, as " + how, t.told(2, 0), how == HANDLED ? Check.READY : Check.PAUSED);
        }
    }

    /** One that is PENDING as it has a HANDLER is taken, too: it does not begin. */
    private static void contTakesAHandledStop() {
        ProcessTable t = in(Check.PAUSED, child().handle(20, "by"));
        t.kill(2, 20);
        Check.due("6: pending", t.told(2, Check.PENDING), 1 << 20);
        Check.due("6: interrupted", t.told(2, 0), Check.READY);
        t.kill(2, 18);
        Check.due("6: taken", t.told(2, Check.PENDING), 0);
        Check.due("6: ready still", t.told(2, 0), Check.READY);
        t.tick(10);
        Check.due("14: no handler began", t.count(8), 0);
    }

    /** "and 19, 20 take 18 (whatever they do)". */
    private static void stopsTakeCont() {
        for (int how = BY_ITSELF; how <= BLOCKED_IGNORED; how++) {
            ProcessTable t = in(Check.PAUSED, with(20, how, 1 << 18 | 1 << 3));
            t.kill(2, 18);
            t.kill(2, 3);
            Check.due("6: 18 is pending", t.told(2, Check.PENDING), 1 << 18 | 1 << 3);
            t.kill(2, 20);
            Check.due("6: 20 takes it, as " + how, t.told(2, Check.PENDING), kept(20, how) | 1 << 3);
            int state = how == BY_ITSELF ? Check.STOPPED : how == HANDLED ? Check.READY : Check.PAUSED;
            Check.due("6: its state, as " + how, t.told(2, 0), state);
        }
        ProcessTable t = in(Check.PAUSED, child().mask(1, 1 << 18));
        t.kill(2, 18);
        t.kill(2, 19);
        Check.due("6: 19 takes it", t.told(2, Check.PENDING), 0);
    }

    /** "by 18 a STOPPED one GOES ON: it is READY." */
    private static void contLetsGoOnWhateverItDoes() {
        for (int how = BY_ITSELF; how <= BLOCKED_IGNORED; how++) {
            ProcessTable t = in(Check.STOPPED, with(18, how, 0));
            int sent = t.count(7);
            t.kill(2, 18);
            Check.due("6: goes on, as " + how, t.told(2, 0), Check.READY);
            Check.due("6: pending, as " + how, t.told(2, Check.PENDING), kept(18, how));
            Check.due("6: PAUSE is next again, as " + how, t.register(2, BY), 0);
            Check.due("6: nobody is told", t.count(7), sent + 1);
            t.tick(10);
            Check.due("6: pauses again, as " + how, t.told(2, 0), Check.PAUSED);
        }
    }

    /** "if it is BLOCKED, or has a HANDLER, it is PENDING". */
    private static void blockedOrHandledIsPending() {
        for (int s = 1; s <= 20; s++) {
            for (int how = HANDLED; how <= BLOCKED_IGNORED && s != 9 && s != 19; how++) {
                ProcessTable t = in(Check.PAUSED, with(s, how, 0));
                t.kill(2, s);
                Check.due("6: pending " + s + " as " + how, t.told(2, Check.PENDING), 1 << s);
                Check.due("6: state by " + s + " as " + how, t.told(2, 0), how == HANDLED ? Check.READY : Check.PAUSED);
            }
        }
    }

    private static void pendingIsOneBit() {
        Acts acts = child().handle(15, "handler");
        acts.jump("on").at("handler").op(Check.RETURN, 0).at("on");
        ProcessTable t = in(Check.PAUSED, acts);
        for (int i = 0; i < 3; i++) {
            t.kill(2, 15);
            Check.due("6: pending", t.told(2, Check.PENDING), 1 << 15);
        }
        t.tick(30);
        Check.due("14: its handler began once", t.count(8), 1);
        Check.due("8: it is over", t.told(2, Check.HANDLERS), 0);
    }

    /** "one that is STOPPED stays so, and nothing more": the first signal is told, its PARENT hears of it once. */
    private static void stoppedStaysSo() {
        ProcessTable t = new Acts().fork(0, "child").set(1, -1).handle(10, "watch").sleep().at("watch")
            .op(Check.WATCH, 1, 2).set(1, -1).op(Check.WATCH, 1, 3).at("child").sleep().boot(30);
        t.kill(2, 20);
        int sent = t.count(7);
        t.kill(2, 20);
        t.kill(2, 19);
        Check.due("6: stopped", t.told(2, 0), Check.STOPPED);
        Check.due("6: no CHLD", t.count(7), sent + 2);
        t.kill(1, 10);
        t.tick(2);
        Check.due("5: the first signal is told", t.register(1, 2), 256 * 20 + 127);
        t.kill(2, 19);
        t.tick(2);
        Check.due("5: no other", t.told(1, 0), Check.WAITING);
        t.kill(2, 19);
        Check.due("5: nor is the one that waits READY by it", t.told(1, 0), Check.WAITING);
    }

    /** "is STOPPED (also one that was WAITING, PAUSED": its ACT is next again. */
    private static void stoppedFromEachState() {
        for (int state : SLEEPS) {
            Acts acts = child();
            ProcessTable t = in(state, acts);
            t.kill(2, 20);
            Check.due("6: stopped", t.told(2, 0), Check.STOPPED);
            Check.due("8: its act is next", t.told(2, Check.NEXT), acts.number("by"));
            Check.due("5: nobody's turn", t.tick(5), 0);
            if (state == Check.WAITING) {
                t.kill(3, 9);
                Check.due("6: a child that ends leaves it so", t.told(2, 0), Check.STOPPED);
                t.kill(2, 18);
                t.tick(1);
                Check.due("5: WAIT is done again", t.register(2, BY), 3);
            } else {
                t.kill(2, 18);
                Check.due("5: one turn", t.tick(5), 1);
                Check.due("5: paused again", t.told(2, 0), Check.PAUSED);
            }
        }
    }

    /** PID 1 itself in that state, behind these acts; PID 2 sleeps. */
    private static ProcessTable first(int state, Acts acts) {
        acts.fork(0, "other");
        if (state == Check.READY) {
            acts.at("loop").jump("loop");
        } else {
            acts.set(BY, -1).op(state == Check.WAITING ? Check.WAIT : Check.PAUSE, BY, 6);
        }
        return acts.at("other").sleep().boot(30);
    }

    /** "To PID 1 9, 19, and what would END, STOP it by itself, are nothing." */
    private static void nothingToPidOne() {
        for (int state : new int[] {Check.READY, Check.WAITING, Check.PAUSED}) {
            ProcessTable t = first(state, new Acts());
            for (int s = 1; s <= 20; s++) {
                Check.due("6: kill(1, " + s + ")", t.kill(1, s), 1);
                Check.due("6: PID 1 by " + s, t.told(1, 0), state);
                Check.due("6: pending by " + s, t.told(1, Check.PENDING), 0);
                Check.due("14: sent", t.count(7), s);
            }
            Check.due("14: none ended", t.count(6), 0);
            Check.due("14: no panic", t.count(9), 0);
        }
    }

    /** What has a HANDLER at PID 1 begins there, too; 9 and 19 never have one. */
    private static void pidOneHandles() {
        for (int s = 1; s <= 20; s++) {
            Acts acts = new Acts().op(Check.JUMP, 2).at("handler").op(Check.RETURN, 0).handle(s, "handler");
            ProcessTable t = first(Check.PAUSED, acts);
            t.kill(1, s);
            boolean never = s == 9 || s == 19;
            Check.due("6: PID 1 by a handled " + s, t.told(1, 0), never ? Check.PAUSED : Check.READY);
            Check.due("6: pending", t.told(1, Check.PENDING), never ? 0 : 1 << s);
            t.tick(1);
            Check.due("14: its handler began", t.count(8), never ? 0 : 1);
            Check.due("14: no panic", t.count(9), 0);
        }
    }

    /** "that is WAITING, PAUSED READY: INTERRUPTED; REGISTER a .. is -4, the next ACT is the one behind." */
    private static void handledInterrupts() {
        for (int state : SLEEPS) {
            for (int s = 1; s <= 20; s++) {
                if (s != 9 && s != 19) {
                    Acts acts = child().handle(s, "by");
                    ProcessTable t = in(state, acts);
                    Check.due("8: its act is next", t.told(2, Check.NEXT), acts.number("by"));
                    t.kill(2, s);
                    Check.due("6: READY by " + s, t.told(2, 0), Check.READY);
                    Check.due("6: register a by " + s, t.register(2, BY), -4);
                    Check.due("6: register b by " + s, t.register(2, 6), 0);
                    Check.due("6: the act behind is next", t.told(2, Check.NEXT), acts.number("behind"));
                }
            }
        }
    }

    /** A second one finds it READY: neither the next ACT nor a REGISTER changes by that. */
    private static void interruptedOnce() {
        Acts acts = child().handle(10, "by").handle(12, "by");
        ProcessTable t = in(Check.PAUSED, acts);
        t.kill(2, 12);
        t.kill(2, 10);
        t.kill(2, 12);
        Check.due("6: the act behind is next", t.told(2, Check.NEXT), acts.number("behind"));
        Check.due("6: both are pending", t.told(2, Check.PENDING), 1 << 10 | 1 << 12);

        Acts busy = child().handle(10, "loop");
        ProcessTable ready = in(Check.READY, busy);
        ready.kill(2, 10);
        Check.due("6: a READY one is not interrupted", ready.told(2, Check.NEXT), busy.number("loop"));
        for (int r = 0; r < 8; r++) {
            Check.due("6: no register of it changes", ready.register(2, r), 0);
        }
    }

    private static void interruptedRegisterIsModulo8() {
        for (int a : new int[] {13, -3, 8 * 100 + 5, Check.MAX - 2, Check.MIN + 5}) {
            ProcessTable t = child().handle(10, "child").op(Check.PAUSE, a).sleep().boot(20);
            t.kill(2, 10);
            Check.due("6: PAUSE " + a, t.register(2, 5), -4);
        }
    }

    /** Neither one that is BLOCKED, nor one that does nothing, nor any to a STOPPED one. */
    private static void whatInterruptsNot() {
        for (int state : SLEEPS) {
            for (int how : new int[] {IGNORED, BLOCKED, BLOCKED_HANDLED, BLOCKED_IGNORED}) {
                ProcessTable t = in(state, with(10, how, 0));
                int register = t.register(2, BY);
                t.kill(2, 10);
                Check.due("6: state " + state + " as " + how, t.told(2, 0), state);
                Check.due("6: register a", t.register(2, BY), register);
                Check.due("5: nobody's turn", t.tick(3), 0);
            }
        }
        Acts acts = child().handle(10, "by");
        ProcessTable t = in(Check.STOPPED, acts);
        t.kill(2, 10);
        Check.due("6: a STOPPED one", t.told(2, 0), Check.STOPPED);
        Check.due("6: pending", t.told(2, Check.PENDING), 1 << 10);
        Check.due("6: register a", t.register(2, BY), 0);
        Check.due("6: its act is next", t.told(2, Check.NEXT), acts.number("by"));
        t.kill(2, 18);
        Check.due("6: nor when it goes on", t.register(2, BY), 0);
        t.tick(1);
        Check.due("5: but the handler begins", t.told(2, Check.HANDLERS), 1);
    }

    /** PID 2 blocks all, idles some turns, and blocks but those bits then, "mask" being that act. */
    private static Acts masking(int then) {
        return child().set(2, then).mask(1, -1).idle(20).at("mask").op(Check.MASK, 2).at("behind").idle(2).sleep();
    }

    /** "Behind each ACT those .. PENDING, neither BLOCKED nor with a HANDLER, .. happen at once, by their numbers". */
    private static void maskLetsTheLeastHappen() {
        Acts acts = masking(0);
        ProcessTable t = acts.boot(12);
        for (int s : new int[] {15, 3, 16}) {
            t.kill(2, s);
        }
        Check.due("6: all are pending", t.told(2, Check.PENDING), 1 << 15 | 1 << 3 | 1 << 16);
        int sent = t.count(7);
        tickTo(t, acts.number("mask"));
        Check.due("5: not ahead of the act", t.told(2, 0), Check.READY);
        tickTo(t, acts.number("behind"));
        Check.due("5: ended in that turn, by the least", t.told(2, Check.HOW_ENDED), 3);
        Check.due("5: without being SENT: CHLD alone was", t.count(7), sent + 1);
    }

    private static void tickTo(ProcessTable t, int next) {
        for (int i = 0; i < 60 && t.told(2, Check.NEXT) != next; i++) {
            t.tick(1);
        }
        Check.due("8: the next act", t.told(2, Check.NEXT), next);
    }

    private static void maskPassesIgnoredOnes() {
        Acts acts = new Acts().op(Check.ACTION, 3, 1).fork(0, "child").sleep().at("child").set(2, 0).mask(1, -1)
            .idle(20).op(Check.MASK, 2).at("behind").idle(2).sleep();
        ProcessTable t = acts.boot(12);
        for (int s : new int[] {3, 17, 18}) {
            t.kill(2, s);
        }
        tickTo(t, acts.number("behind"));
        Check.due("5: nothing happened", t.told(2, 0), Check.READY);
        Check.due("5: they are PENDING no more", t.told(2, Check.PENDING), 0);

        ProcessTable ends = acts.boot(12);
        for (int s : new int[] {20, 16, 3, 17}) {
            ends.kill(2, s);
        }
        tickTo(ends, acts.number("behind"));
        Check.due("5: the least that is not ignored", ends.told(2, Check.HOW_ENDED), 16);

        ProcessTable stops = acts.boot(12);
        stops.kill(2, 20);
        int sent = stops.count(7);
        tickTo(stops, acts.number("behind"));
        Check.due("5: STOPPED behind its act", stops.told(2, 0), Check.STOPPED);
        Check.due("5: CHLD alone was SENT", stops.count(7), sent + 1);
        stops.kill(2, 18);
        Check.due("5: it goes on behind that", stops.tick(1), 1);
        Check.due("5: by its next act", stops.told(2, Check.NEXT), acts.number("behind") + 1);
    }

    private static void maskLeavesHandledAndBlocked() {
        // 3 has a handler, 15 stays blocked, 16 is let through.
        Acts acts = new Acts().handle(3, "behind").fork(0, "child").sleep().at("child").set(2, 1 << 15).mask(1, -1)
            .idle(20).op(Check.MASK, 2).at("behind").idle(2).sleep();
        ProcessTable t = acts.boot(12);
        t.kill(2, 3);
        t.kill(2, 15);
        tickTo(t, acts.number("behind"));
        Check.due("5: both are PENDING still", t.told(2, Check.PENDING), 1 << 3 | 1 << 15);
        Check.due("14: none began in that turn", t.count(8), 0);
        t.tick(1);
        Check.due("14: 3 in the next", t.count(8), 1);
        Check.due("8: 15 is PENDING still", t.told(2, Check.PENDING), 1 << 15);

        ProcessTable ends = acts.boot(12);
        ends.kill(2, 3);
        ends.kill(2, 16);
        tickTo(ends, acts.number("behind"));
        Check.due("5: 16 happens ahead of 3, that has a handler", ends.told(2, Check.HOW_ENDED), 16);
        Check.due("14: which never begins", ends.count(8), 0);
    }

    /** RETURN lets through what its HANDLER blocked. */
    private static void returnLetsThemHappen() {
        Acts acts = child().handle(10, "handler").at("sleep").sleep().at("handler").op(Check.ACTION, 10, 0).idle(1)
            .op(Check.RETURN, 0);
        ProcessTable t = acts.boot(20);
        t.kill(2, 10);
        t.tick(2);
        t.kill(2, 10);
        t.tick(1);
        Check.due("6: pending, as it is blocked", t.told(2, Check.PENDING), 1 << 10);
        t.tick(1);
        Check.due("5: behind RETURN it happens", t.told(2, Check.HOW_ENDED), 10);
    }

    private static void behindAnActToPidOne() {
        ProcessTable t = new Acts().mask(0, -1).idle(1).op(Check.MASK, 1).sleep().boot(3);
        for (int s = 1; s <= 17; s++) {
            t.kill(1, s);
        }
        t.tick(1);
        Check.due("5: PENDING no more", t.told(1, Check.PENDING), 0);
        Check.due("5: PID 1 lives", t.told(1, 0), Check.READY);
        Check.due("14: no panic", t.count(9), 0);
    }

    /**
     * "come in a row, and are done one by one in its order": PID 4, in entry 1, is the child of 3, in entry 2; both get
     * STOP. The CHLD of 4's stop comes behind 3's own STOP, so that 3 is not interrupted by it.
     */
    private static void rowIsDoneInItsOrder() {
        Acts acts = new Acts().op(Check.ACTION, 17, 1).fork(0, "sleep").fork(0, "third").handle(10, "stop")
            .at("sleep").sleep()
            .at("stop").set(1, -3).set(2, 19).op(Check.KILL, 1, 2).op(Check.RETURN, 0)
            .at("third").op(Check.JOIN, 1, 2).handle(10, "wake").op(Check.PAUSE, 6).op(Check.FORK, 3)
            .zero(3, "sleep").handle(17, "wake").jump("sleep").at("wake").op(Check.RETURN, 0);
        ProcessTable t = acts.boot(40);
        t.kill(2, 9);
        Check.due("7: entry 1 is free", t.entry(1), 0);
        t.kill(3, 10);
        t.tick(20);
        Check.due("7: the child is in entry 1", t.entry(1), 4);
        Check.due("8: its parent is PID 3", t.told(4, 1), 3);
        Check.due("7: that is in entry 2", t.entry(2), 3);
        t.kill(1, 10);
        t.tick(6);
        Check.due("6: PID 4 is stopped", t.told(4, 0), Check.STOPPED);
        Check.due("6: PID 3 is stopped", t.told(3, 0), Check.STOPPED);
        Check.due("6: CHLD came behind that", t.told(3, Check.PENDING), 1 << 17);
        Check.due("6: and interrupted nobody", t.register(3, Acts.SLEEP), 0);
    }

    /** "behind what SENT them": KILL has told its register and its next ACT, ahead of what it does to itself. */
    private static void rowIsDoneBehindItsAct() {
        Acts acts = child().op(Check.OWN, 1).set(2, 15).op(Check.KILL, 1, 2).at("behind").sleep();
        ProcessTable t = acts.boot(20);
        Check.due("5: ended by itself", t.told(2, Check.HOW_ENDED), 15);
        Check.due("5: ra is 0 ahead of that", t.register(2, 1), 0);
        Check.due("5: the act behind is next", t.told(2, Check.NEXT), acts.number("behind"));

        Acts self = child().handle(10, "behind").op(Check.OWN, 1).set(2, 10).op(Check.KILL, 1, 2).at("behind").sleep();
        ProcessTable handled = self.boot(8);
        for (int i = 0; i < 10 && handled.told(2, Check.PENDING) == 0; i++) {
            handled.tick(1);
        }
        Check.due("5: pending behind its own KILL", handled.told(2, Check.PENDING), 1 << 10);
        Check.due("14: none began in that turn", handled.count(8), 0);
        handled.tick(1);
        Check.due("14: but in its next", handled.count(8), 1);
    }

    /** "done one by one": each once, also the very first of an object: TSTP does not take a later CONT. */
    private static void rowIsDoneOnce() {
        ProcessTable t = new Acts().mask(1, 1 << 18).sleep().boot(0);
        t.kill(1, 20);
        t.tick(2);
        t.kill(1, 18);
        Check.due("6: 18 is pending", t.told(1, Check.PENDING), 1 << 18);
        t.tick(2);
        Check.due("6: and stays so", t.told(1, Check.PENDING), 1 << 18);
    }
}
