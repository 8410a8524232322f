/** 'Terms', block 3, ops 0 to 13: numbers, jumps, TELL, FORK, EXEC, EXIT, WAIT, LOOK, WATCH; at their edges. */
public final class OpEdgesTest {
    private static final int[] AWAITING = {Check.WAIT, Check.LOOK, Check.WATCH};

    public static void main(String[] args) {
        registersModulo8OfEveryOp();
        opsThatAreNotTold();
        numbersWrap();
        oneRegisterTwice();
        zeroOnly();
        belowZeroOnly();
        jumpsToItself();
        tellsTheLatest40();
        forkIsLikeItsParent();
        forkHasNothingPending();
        forkOfAParentWithFourHandlers();
        execOfTheEdges();
        execRefusedChangesNothing();
        execOfItself();
        execLeavesWhatIsBlocked();
        exitKeepsEightBits();
        noneOfItsChildrenIsMeant();
        meantByPid();
        meantByGroup();
        meantAll();
        firstZombieByEntries();
        zombieIsFreedOnce();
        howItEnded();
        lookAnswersZero();
        watchTellsTheFirstStopped();
        watchTellsAStopOnce();
        waitTellsNoStops();
        stopIsToldToOneParentOnly();
        wokenByWhatChildrenDo();
        notWokenByOthers();
        Check.finish();
    }

    private static Acts child() {
        return new Acts().fork(0, "child").sleep().at("child");
    }

    /** "REGISTERS are a, b modulo 8 (0 .. 7)", below 0 too: the same op by other names does the same. */
    private static void registersModulo8OfEveryOp() {
        int[] byBoth = {Check.MOVE, Check.ADD, Check.LESS, Check.TELL, Check.FORK, Check.EXIT, Check.WAIT, Check.LOOK,
            Check.WATCH, Check.KILL, Check.MASK, Check.PAUSE, Check.ALARM, Check.OWN, Check.PARENT, Check.GROUP,
            Check.JOIN};
        for (int op : byBoth) {
            String want = behind(op, 3, 4);
            Check.same("op " + op + " by 8 more", behind(op, 11, 12), want);
            Check.same("op " + op + " by 8 less", behind(op, -5, -4), want);
            Check.same("op " + op + " by the largest", behind(op, Check.MAX - 4, Check.MAX - 3), want);
            Check.same("op " + op + " by the least", behind(op, Check.MIN + 3, Check.MIN + 4), want);
        }
        for (int op : new int[] {Check.SET, Check.ZERO, Check.BELOW, Check.EXEC}) {
            String want = behind(op, 3, 5);
            for (int a : new int[] {11, -5, Check.MAX - 4, Check.MIN + 3}) {
                Check.same("op " + op + " by " + a, behind(op, a, 5), want);
            }
        }
    }

    /** PID 2, with a zombie child 3, does that op: all that is told then. */
    private static String behind(int op, int a, int b) {
        Acts acts = new Acts().fork(0, "child").sleep().at("child").fork(1, "ends").handle(10, "child").idle(4)
            .set(3, 0).set(4, 15).op(op, a, b).idle(1).sleep().at("ends").op(Check.EXIT, 2);
        return Check.snapshot(acts.boot(40));
    }

    /** "An OP that is not told does nothing; the next ACT is the one behind". */
    private static void opsThatAreNotTold() {
        for (int op : new int[] {-1, 24, 25, 256, 8 + 256, Check.MIN, Check.MAX}) {
            ProcessTable t = new Acts().set(1, 5).op(op, 1, 1).sleep().boot(1);
            String before = Check.snapshot(t);
            Check.due("5: a turn", t.tick(1), 1);
            Check.same("op " + op, Check.snapshot(t), before.replace(" count 1 count 0 count 1 count 1 ",
                " count 1 count 0 count 1 count 2 ").replace(" told 0 told 0 told 1 told 0 told 1 ",
                " told 0 told 0 told 1 told 0 told 2 "));
        }
    }

    /** "(wrapping)". */
    private static void numbersWrap() {
        ProcessTable t = new Acts().set(0, Check.MAX).set(1, 1).op(Check.ADD, 0, 1).set(2, Check.MIN)
            .op(Check.LESS, 2, 1).set(3, Check.MIN).set(4, Check.MIN).op(Check.ADD, 3, 4).op(Check.LESS, 5, 4).boot(9);
        Check.due("5: MAX and 1", t.register(1, 0), Check.MIN);
        Check.due("5: MIN less 1", t.register(1, 2), Check.MAX);
        Check.due("5: MIN and MIN", t.register(1, 3), 0);
        Check.due("5: 0 less MIN", t.register(1, 5), Check.MIN);
    }

    private static void oneRegisterTwice() {
        ProcessTable t = new Acts().set(0, 7).op(Check.ADD, 0, 0).set(1, 7).op(Check.LESS, 1, 1).set(2, 7)
            .op(Check.MOVE, 2, 2).boot(6);
        Check.due("5: ADD to itself", t.register(1, 0), 14);
        Check.due("5: LESS itself", t.register(1, 1), 0);
        Check.due("5: MOVE to itself", t.register(1, 2), 7);
    }

    private static int nextBehind(int op, int number) {
        return new Acts().set(1, number).op(op, 1, 40).boot(2).told(1, Check.NEXT);
    }

    /** "5 ZERO: it is b, if ra is 0." */
    private static void zeroOnly() {
        Check.due("5: ZERO of 0", nextBehind(Check.ZERO, 0), 40);
        for (int number : new int[] {1, -1, 256, Check.MIN, Check.MAX}) {
            Check.due("5: ZERO of " + number, nextBehind(Check.ZERO, number), 2);
        }
    }

    /** "6 BELOW: b, if ra is below 0." */
    private static void belowZeroOnly() {
        for (int number : new int[] {-1, -2, Check.MIN}) {
            Check.due("5: BELOW of " + number, nextBehind(Check.BELOW, number), 40);
        }
        for (int number : new int[] {0, 1, Check.MAX}) {
            Check.due("5: BELOW of " + number, nextBehind(Check.BELOW, number), 2);
        }
    }

    private static void jumpsToItself() {
        ProcessTable t = new Acts().idle(1).op(Check.JUMP, 1).boot(100);
        Check.due("8: the same act again", t.told(1, Check.NEXT), 1);
        ProcessTable last = new Acts().op(Check.JUMP, 2).op(Check.EXIT, 0).set(3, 33).boot(2);
        Check.due("5: to the last act", last.register(1, 3), 33);
    }

    /** "THE LOG (the latest 40)": with 0, 1, 39, 40, 41 and 81 that were told. */
    private static void tellsTheLatest40() {
        for (int told : new int[] {0, 1, 2, 39, 40, 41, 79, 80, 81}) {
            // Each round of three acts tells one number more.
            ProcessTable t = new Acts().set(1, 1).op(Check.ADD, 0, 1).op(Check.TELL, 0).op(Check.JUMP, 1).boot(1);
            for (int i = 0; i < told; i++) {
                t.tick(3);
            }
            for (int i = 0; i < 42; i++) {
                boolean there = i < told && i < 40;
                Check.due("13: the number " + i + " of " + told, t.log(i, 1), there ? told - i : Check.NONE);
                Check.due("13: the PID " + i + " of " + told, t.log(i, 0), there ? 1 : Check.NONE);
            }
            for (int i : new int[] {-1, Check.MIN, Check.MAX}) {
                Check.due("13: number " + i, t.log(i, 1), Check.NONE);
            }
        }
    }

    /** "GROUP, PROGRAM, REGISTERS, what SIGNALS do, BLOCKED, HANDLERS under way like its PARENT's". */
    private static void forkIsLikeItsParent() {
        ProcessTable t = new ProcessTable();
        Acts acts = new Acts();
        for (int r = 0; r < 8; r++) {
            acts.set(r, 1000 + r);
        }
        for (int s = 1; s <= 20; s++) {
            acts.op(Check.ACTION, s, s % 3 == 0 ? 1 : 40 + s);
        }
        acts.op(Check.MASK, 0).op(Check.FORK, 5).load(t, 13);
        t.boot(13);
        t.tick(30);
        for (int r = 0; r < 8; r++) {
            int want = r == 5 ? 0 : t.register(1, r);
            Check.due("9: register " + r, t.register(2, r), want);
        }
        Check.due("9: ra here", t.register(1, 5), 2);
        for (int s = 1; s <= 20; s++) {
            Check.due("10: action " + s, t.action(2, s), s == 9 || s == 19 ? 0 : s % 3 == 0 ? 1 : 40 + s);
        }
        Check.due("8: state", t.told(2, 0), Check.READY);
        Check.due("8: parent", t.told(2, 1), 1);
        Check.due("8: group", t.told(2, 2), 1);
        Check.due("8: program", t.told(2, 3), 13);
        Check.due("8: the act behind FORK is next", t.told(2, Check.NEXT), 30);
        Check.due("8: blocked", t.told(2, Check.BLOCKED), 1000 & 0x1FFFFE & ~(1 << 9));
    }

    /** "no PENDING, no ALARM, READY". */
    private static void forkHasNothingPending() {
        ProcessTable t = new Acts().mask(1, 1 << 15).alarm(2, 100).idle(5).op(Check.FORK, 3).boot(6);
        t.kill(1, 15);
        t.tick(4);
        Check.due("8: pending here", t.told(1, Check.PENDING), 1 << 15);
        Check.due("8: alarm here", t.told(1, Check.UNTIL_ALARM) > 0 ? 1 : 0, 1);
        Check.due("8: none there", t.told(2, Check.PENDING), 0);
        Check.due("8: no alarm there", t.told(2, Check.UNTIL_ALARM), 0);
        Check.due("8: blocked there", t.told(2, Check.BLOCKED), 1 << 15);
    }

    private static void forkOfAParentWithFourHandlers() {
        // The fourth handler forks; the child returns from all four as its parent would.
        Acts acts = new Acts().handle(1, "handler").handle(2, "handler").handle(3, "handler").handle(4, "fork")
            .at("sleep").sleep().at("fork").op(Check.FORK, 0).at("handler").op(Check.RETURN, 0);
        ProcessTable t = acts.boot(20);
        for (int s = 1; s <= 4; s++) {
            t.kill(1, s);
            t.tick(1);
        }
        t.tick(1);
        Check.due("8: four under way there", t.told(2, Check.HANDLERS), 4);
        Check.due("14: only four began", t.count(8), 4);
        t.tick(8);
        Check.due("8: none any more", t.told(2, Check.HANDLERS), 0);
        Check.due("8: none blocked any more", t.told(2, Check.BLOCKED), 0);
        Check.due("8: it is behind PAUSE, as its parent was", t.told(2, Check.NEXT), acts.number("sleep") + 1);
    }

    /** "it becomes PROGRAM b .. No PROGRAM 0 .. 15: ra is -2". */
    private static void execOfTheEdges() {
        for (int p : new int[] {0, 1, 15}) {
            ProcessTable t = new Acts().set(2, 22).op(Check.EXEC, 2, p).boot(2);
            Check.due("8: program", t.told(1, 3), p);
            Check.due("8: from its beginning", t.told(1, Check.NEXT), 0);
            Check.due("9: ra stays", t.register(1, 2), 22);
        }
        for (int p : new int[] {-1, 16, 8 + 256, Check.MIN, Check.MAX}) {
            ProcessTable t = new Acts().idle(1).op(Check.EXEC, 2, p).boot(2);
            Check.due("9: EXEC " + p, t.register(1, 2), -2);
            Check.due("8: program stays", t.told(1, 3), 0);
            Check.due("8: the act behind is next", t.told(1, Check.NEXT), 2);
        }
    }

    private static void execRefusedChangesNothing() {
        // In a handler: it is under way still, and the handler stays.
        ProcessTable t = new Acts().handle(10, "handler").sleep().at("handler").op(Check.EXEC, 2, 16).boot(5);
        t.kill(1, 10);
        t.tick(2);
        Check.due("9: refused", t.register(1, 2), -2);
        Check.due("8: under way still", t.told(1, Check.HANDLERS), 1);
        Check.due("10: the handler stays", t.action(1, 10) >= 2 ? 1 : 0, 1);
    }

    private static void execOfItself() {
        // An empty program: it ends in its next turn.
        ProcessTable t = child().op(Check.EXEC, 2, 7).boot(20);
        Check.due("8: it ended", t.told(2, 0), Check.ZOMBIE);
        Check.due("8: in program 7", t.told(2, 3), 7);
        Check.due("8: with status 0", t.told(2, Check.HOW_ENDED), 0);
        ProcessTable again = new Acts().op(Check.ADD, 0, 1).set(1, 1).op(Check.EXEC, 2, 0).boot(9);
        Check.due("9: three times the same program", again.register(1, 0), 2);
    }

    /** "HANDLERS are 0 then, none is under way (BLOCKED, PENDING, REGISTERS, ALARM stay)"; what is 1 stays 1. */
    private static void execLeavesWhatIsBlocked() {
        Acts acts = new Acts().handle(10, "handler").handle(1, "handler").handle(20, "handler").op(Check.ACTION, 2, 1)
            .alarm(3, 150).sleep().at("handler").set(4, 44).op(Check.EXEC, 5, 9);
        ProcessTable t = acts.boot(10);
        t.act(9, Check.PAUSE, 6, 0);
        t.kill(1, 10);
        t.tick(1);
        t.kill(1, 10);
        t.tick(1);
        int left = t.told(1, Check.UNTIL_ALARM);
        t.tick(1);
        for (int s : new int[] {1, 10, 20}) {
            Check.due("10: the handler of " + s + " is 0", t.action(1, s), 0);
        }
        Check.due("10: nothing stays nothing", t.action(1, 2), 1);
        Check.due("8: none under way", t.told(1, Check.HANDLERS), 0);
        Check.due("8: BLOCKED stays", t.told(1, Check.BLOCKED), 1 << 10);
        Check.due("8: PENDING stays", t.told(1, Check.PENDING), 1 << 10);
        Check.due("9: REGISTERS stay", t.register(1, 4), 44);
        Check.due("8: ALARM stays", t.told(1, Check.UNTIL_ALARM), left - 1);
    }

    /** "10 EXIT: it ENDS with status ra, its lowest 8 bits." */
    private static void exitKeepsEightBits() {
        int[][] pairs = {{0, 0}, {1, 1}, {127, 127}, {128, 128}, {255, 255}, {256, 0}, {257, 1}, {-1, 255}, {-256, 0},
            {Check.MAX, 255}, {Check.MIN, 0}};
        for (int[] pair : pairs) {
            ProcessTable t = child().set(3, pair[0]).op(Check.EXIT, 3).boot(20);
            Check.due("8: EXIT " + pair[0], t.told(2, Check.HOW_ENDED), 256 * pair[1]);
        }
    }

    /** PID 1 > 2 > 3, and 1 > 4 (of group 4); PID 1 does op with meant, once it gets 10. */
    private static ProcessTable family(int op, int meant) {
        Acts acts = new Acts().fork(0, "second").fork(0, "fourth").handle(10, "op").set(1, meant).at("sleep").sleep()
            .at("op").op(op, 1, 2).jump("sleep").at("fourth").idle(9).op(Check.JOIN, 3, 3).jump("sleep")
            .at("second").fork(0, "sleep").jump("sleep");
        ProcessTable t = acts.boot(80);
        Check.due("8: PID 3 is PID 2's", t.told(3, 1), 2);
        Check.due("8: PID 4 is of group 4", t.told(4, 2), 4);
        return t;
    }

    private static void doIt(ProcessTable t) {
        t.kill(1, 10);
        t.tick(2);
    }

    /** "there is none: ra is -10": no child, or only others' children. */
    private static void noneOfItsChildrenIsMeant() {
        for (int op : AWAITING) {
            for (int meant : new int[] {1, 3, 5, 1000, -2, -3, -5, Check.MAX, Check.MIN, Check.MIN + 1}) {
                ProcessTable t = family(op, meant);
                t.kill(3, 9);
                t.tick(5);
                doIt(t);
                Check.due("9: op " + op + " of " + meant, t.register(1, 1), -10);
                Check.due("9: rb stays", t.register(1, 2), 0);
                Check.due("14: nobody is freed", t.count(0), 4);
            }
            for (int meant : new int[] {0, -1, 2, -3}) {
                ProcessTable alone = new Acts().set(1, meant).op(op, 1, 2).sleep().boot(2);
                Check.due("9: op " + op + " without a child", alone.register(1, 1), -10);
            }
        }
    }

    /** "(above 0: that PID". */
    private static void meantByPid() {
        for (int op : AWAITING) {
            ProcessTable t = family(op, 4);
            t.kill(2, 15);
            t.kill(4, 9);
            doIt(t);
            Check.due("9: op " + op + " of PID 4", t.register(1, 1), 4);
            Check.due("9: how", t.register(1, 2), 9);
            Check.due("8: PID 2 is there still", t.told(2, 0), Check.ZOMBIE);
        }
    }

    /** "0: of its own GROUP .. else: of GROUP -ra". */
    private static void meantByGroup() {
        for (int op : AWAITING) {
            ProcessTable own = family(op, 0);
            own.kill(2, 15);
            own.kill(4, 9);
            doIt(own);
            Check.due("9: op " + op + " of its own group", own.register(1, 1), 2);
            // 2 is of group 2, as its child 4; its child 3 is of group 1.
            ProcessTable two = new Acts().fork(0, "second").at("sleep").sleep().at("second").handle(10, "op")
                .op(Check.JOIN, 1, 1).fork(0, "third").idle(6).fork(0, "sleep").jump("sleep").at("op").op(op, 1, 2)
                .jump("sleep").at("third").set(1, 1).op(Check.JOIN, 3, 1).jump("sleep").boot(80);
            Check.due("8: PID 3's group", two.told(3, 2), 1);
            two.kill(3, 9);
            two.kill(4, 9);
            two.kill(2, 10);
            two.tick(2);
            Check.due("9: op " + op + " of its own group, 2", two.register(2, 1), 4);
            ProcessTable other = family(op, -4);
            other.kill(2, 15);
            other.kill(4, 9);
            doIt(other);
            Check.due("9: op " + op + " of group 4", other.register(1, 1), 4);
        }
    }

    /** "-1: all" is not GROUP 1. */
    private static void meantAll() {
        for (int op : AWAITING) {
            ProcessTable t = family(op, -1);
            t.kill(4, 9);
            doIt(t);
            Check.due("9: op " + op + " of all", t.register(1, 1), 4);
        }
    }

    /** "the first by ENTRIES that is a ZOMBIE", not the first that ended. */
    private static void firstZombieByEntries() {
        for (int op : AWAITING) {
            ProcessTable t = family(op, -1);
            t.kill(4, 9);
            t.kill(2, 15);
            doIt(t);
            Check.due("9: op " + op, t.register(1, 1), 2);
            Check.due("9: how it ended", t.register(1, 2), 15);
            Check.due("7: its entry is free", t.entry(1), 0);
            Check.due("7: the other's is not", t.entry(3), 4);
        }
    }

    private static void zombieIsFreedOnce() {
        ProcessTable t = family(Check.LOOK, 2);
        t.kill(2, 9);
        doIt(t);
        Check.due("8: PID 2 is no more", t.told(2, 0), Check.UNKNOWN);
        Check.due("14: three processes", t.count(0), 3);
        Check.due("14: no zombie", t.count(1), 0);
        Check.due("12: members of group 1", t.members(1), 2);
        Check.due("11: PID 3 is a child now", t.child(1, 0), 3);
    }

    /** "rb how it ENDED (256 times its status; by a SIGNAL that)". */
    private static void howItEnded() {
        for (int status : new int[] {0, 1, 255}) {
            ProcessTable t = new Acts().fork(0, "child").op(Check.WAIT, 1, 2).sleep().at("child").set(3, status)
                .op(Check.EXIT, 3).boot(20);
            Check.due("9: status " + status, t.register(1, 2), 256 * status);
        }
        for (int s = 1; s <= 16; s++) {
            ProcessTable t = new Acts().fork(0, "child").op(Check.WAIT, 1, 2).sleep().at("child").sleep().boot(20);
            t.kill(2, s);
            t.tick(2);
            Check.due("9: signal " + s, t.register(1, 2), s);
        }
    }

    /** "Else by 12 ra is 0", and it goes on; a STOPPED one is not told by it. */
    private static void lookAnswersZero() {
        ProcessTable t = family(Check.LOOK, -1);
        t.kill(2, 19);
        doIt(t);
        Check.due("9: LOOK", t.register(1, 1), 0);
        Check.due("9: rb stays", t.register(1, 2), 0);
        Check.due("8: it went on", t.told(1, 0), Check.READY);
    }

    /** "by 13 the first that is STOPPED": by ENTRIES; a ZOMBIE is told ahead of all. */
    private static void watchTellsTheFirstStopped() {
        ProcessTable t = family(Check.WATCH, -1);
        t.kill(4, 19);
        t.kill(2, 20);
        doIt(t);
        Check.due("9: WATCH", t.register(1, 1), 2);
        Check.due("9: the signal, and 127", t.register(1, 2), 256 * 20 + 127);
        Check.due("8: it is STOPPED still", t.told(2, 0), Check.STOPPED);

        ProcessTable zombie = family(Check.WATCH, -1);
        zombie.kill(2, 20);
        zombie.kill(4, 9);
        doIt(zombie);
        Check.due("9: the ZOMBIE, though behind", zombie.register(1, 1), 4);

        ProcessTable meant = family(Check.WATCH, -4);
        meant.kill(2, 20);
        meant.kill(4, 19);
        doIt(meant);
        Check.due("9: one that is meant", meant.register(1, 1), 4);
        Check.due("9: by 19", meant.register(1, 2), 256 * 19 + 127);
    }

    /** "and was not told so since". */
    private static void watchTellsAStopOnce() {
        ProcessTable t = new Acts().fork(0, "child").at("again").set(1, -1).op(Check.WATCH, 1, 2).op(Check.TELL, 2)
            .jump("again").at("child").sleep().boot(20);
        int[] stops = {19, 20, 19};
        for (int s : stops) {
            t.kill(2, s);
            t.tick(20);
            Check.due("13: told", t.log(0, 1), 256 * s + 127);
            Check.due("8: and waiting again", t.told(1, 0), Check.WAITING);
            t.kill(2, 18);
            t.tick(20);
        }
        Check.due("13: each once", t.log(stops.length, 1), Check.NONE);
    }

    /** WAIT and LOOK tell no stops, and a WATCH behind them does. */
    private static void waitTellsNoStops() {
        ProcessTable t = new Acts().fork(0, "child").handle(10, "watch").set(1, -1).op(Check.WAIT, 1, 2).sleep()
            .at("watch").set(1, -1).op(Check.LOOK, 1, 2).op(Check.MOVE, 3, 1).set(1, -1).op(Check.WATCH, 1, 2)
            .at("child").sleep().boot(20);
        t.kill(2, 20);
        t.tick(3);
        Check.due("8: WAIT waits", t.told(1, 0), Check.WAITING);
        t.kill(1, 10);
        t.tick(6);
        Check.due("9: LOOK tells none", t.register(1, 3), 0);
        Check.due("9: WATCH does", t.register(1, 1), 2);
    }

    private static void stopIsToldToOneParentOnly() {
        // PID 2 watches its child 3, which is stopped, and ends; PID 1 watches all: 3 was told so already.
        ProcessTable t = new Acts().fork(0, "second").handle(10, "watch").at("sleep").sleep().at("watch").set(1, 3)
            .op(Check.WATCH, 1, 2).at("second").fork(0, "sleep").set(1, -1).op(Check.WATCH, 1, 2)
            .jump("sleep").boot(40);
        t.kill(3, 20);
        t.tick(5);
        Check.due("9: told to PID 2", t.register(2, 1), 3);
        t.kill(2, 9);
        Check.due("8: PID 3 is PID 1's", t.told(3, 1), 1);
        Check.due("8: STOPPED still", t.told(3, 0), Check.STOPPED);
        t.kill(1, 10);
        t.tick(5);
        Check.due("8: PID 1 waits", t.told(1, 0), Check.WAITING);
    }

    /** "(It is READY, as soon as one of its children ENDS, is freed; STOPS; comes to it.)" */
    private static void wokenByWhatChildrenDo() {
        for (int op : new int[] {Check.WAIT, Check.WATCH}) {
            // PID 4 is meant; PID 2, which is not, wakes PID 1 too.
            for (int s : new int[] {9, 15, 19, 20}) {
                ProcessTable t = family(op, 4);
                doIt(t);
                Check.due("8: waiting", t.told(1, 0), Check.WAITING);
                t.kill(2, s);
                Check.due("8: READY, as PID 2 got " + s, t.told(1, 0), Check.READY);
                Check.due("5: a turn", t.tick(3), 1);
                Check.due("8: waiting again", t.told(1, 0), Check.WAITING);
            }
            // 5, the child of 3, comes to PID 1 as 3 ends; 3 itself is no child of PID 1.
            ProcessTable comes = new Acts().fork(0, "second").set(1, 2).op(op, 1, 2).at("sleep").sleep()
                .at("second").fork(0, "third").jump("sleep").at("third").fork(0, "sleep").jump("sleep").boot(80);
            Check.due("8: waiting", comes.told(1, 0), Check.WAITING);
            comes.kill(3, 9);
            Check.due("8: READY, as PID 4 came to it", comes.told(1, 0), Check.READY);
            Check.due("8: PID 4's parent", comes.told(4, 1), 1);
            // Freed at once, as CHLD does nothing to PID 1.
            ProcessTable freed = new Acts().op(Check.ACTION, 17, 1).fork(0, "sleep").set(1, -1).op(op, 1, 2)
                .at("sleep").sleep().boot(40);
            Check.due("8: waiting", freed.told(1, 0), Check.WAITING);
            freed.kill(2, 9);
            Check.due("8: READY, as PID 2 was freed", freed.told(1, 0), Check.READY);
            freed.tick(1);
            Check.due("9: there is none any more", freed.register(1, 1), -10);
        }
    }

    /** Neither a grandchild, nor a child that goes on, nor what it is sent and does nothing. */
    private static void notWokenByOthers() {
        for (int op : new int[] {Check.WAIT, Check.WATCH}) {
            ProcessTable t = family(op, 4);
            doIt(t);
            t.kill(3, 19);
            Check.due("8: a grandchild stopped", t.told(1, 0), Check.WAITING);
            t.kill(3, 18);
            t.kill(3, 9);
            Check.due("8: a grandchild ended", t.told(1, 0), Check.WAITING);
            t.kill(1, 17);
            Check.due("8: CHLD from outside", t.told(1, 0), Check.WAITING);
            t.kill(2, 20);
            t.tick(2);
            t.kill(2, 18);
            Check.due("8: a child went on", t.told(1, 0), Check.WAITING);
            Check.due("5: only PID 2's turn", t.tick(5), 1);
        }
    }
}
