/** A table of processes that take turns, one act a tick. README.md tells how to use it. */
public final class ProcessTable {
    public static final int NONE = -1, UNKNOWN = -1001, OUTSIDE = -1002, STATE = -1003, FULL = -1004;

    private static final int PROGRAMS = 16, MOST_ACTS = 60, ENTRIES = 24, REGISTERS = 8;
    private static final int SIGNALS = 20, MOST_HANDLERS = 4, LOG_LENGTH = 40, LAST_PID = 999, MOST_TICKS = 200;

    /*
     * One run of the row begins with at most 24 signals. At most 24 processes end in it, each sending one
     * CHLD and two signals to each of 24 members at most, and at most 24 stop, each sending one CHLD.
     */
    private static final int ROW_LENGTH = 24 + 24 * (1 + 2 * 24) + 24;

    private static final int READY = 0, WAITING = 1, PAUSED = 2, STOPPED = 3, ZOMBIE = 4;

    private static final int BY_ITSELF = 0, NOTHING = 1, HANDLER = 2;

    private static final int HUP = 1, KILL = 9, SEGV = 11, ALRM = 14, CHLD = 17, CONT = 18, STOP = 19, TSTP = 20;
    private static final int BLOCKABLE = ((1 << (SIGNALS + 1)) - 2) & ~(1 << KILL) & ~(1 << STOP);

    private static final int OP_SET = 0, OP_MOVE = 1, OP_ADD = 2, OP_LESS = 3, OP_JUMP = 4, OP_ZERO = 5;
    private static final int OP_BELOW = 6, OP_TELL = 7, OP_FORK = 8, OP_EXEC = 9, OP_EXIT = 10, OP_WAIT = 11;
    private static final int OP_LOOK = 12, OP_WATCH = 13, OP_KILL = 14, OP_ACTION = 15, OP_MASK = 16;
    private static final int OP_PAUSE = 17, OP_RETURN = 18, OP_ALARM = 19, OP_OWN = 20, OP_PARENT = 21;
    private static final int OP_GROUP = 22, OP_JOIN = 23;

    /* What a register is told when an op is refused. */
    private static final int NO_SUCH_GROUP = -1, NO_PROGRAM = -2, NO_PROCESS = -3, INTERRUPTED = -4;
    private static final int NO_CHILD = -10, TABLE_FULL = -11, CHILD_DID_EXEC = -13, NO_SIGNAL = -22;

    /** The acts of one program. */
    private static final class Program {
        private final int[] ops = new int[MOST_ACTS];
        private final int[] as = new int[MOST_ACTS];
        private final int[] bs = new int[MOST_ACTS];
        private int size;
    }

    /** One entry of the table and the process in it; pid 0: the entry is free. */
    private static final class Proc {
        private int pid;
        /* A parent never is a zombie or freed before its child has another: only PID 1 has none. */
        private Proc parent;
        private int group;
        private int state;
        private int program;
        private int next;
        private final int[] registers = new int[REGISTERS];
        private final int[] does = new int[SIGNALS + 1];
        private int pending;
        private int blocked;
        private final int[] keptNext = new int[MOST_HANDLERS];
        private final int[] keptBlocked = new int[MOST_HANDLERS];
        private int handlers;
        /* The tick in which it is due, 0: none; a long, as NOW and any int may be added. */
        private long alarm;
        private int howEnded;
        private int stopSignal;
        private boolean stopTold;
        private boolean didExec;
        /* Kept, as the act that it waits or pauses by may be wiped meanwhile. */
        private int interruptRegister;

        private void begin(int newPid, Proc newParent, int newGroup, int newProgram) {
            pid = newPid;
            parent = newParent;
            group = newGroup;
            state = READY;
            program = newProgram;
            next = 0;
            pending = 0;
            blocked = 0;
            handlers = 0;
            alarm = 0;
            howEnded = 0;
            stopSignal = 0;
            stopTold = false;
            didExec = false;
            interruptRegister = 0;
        }

        private void clearRows() {
            for (int r = 0; r < REGISTERS; r++) {
                registers[r] = 0;
            }
            for (int s = 0; s <= SIGNALS; s++) {
                does[s] = BY_ITSELF;
            }
        }

        private void copyFrom(Proc other) {
            next = other.next;
            blocked = other.blocked;
            handlers = other.handlers;
            System.arraycopy(other.registers, 0, registers, 0, REGISTERS);
            System.arraycopy(other.does, 0, does, 0, SIGNALS + 1);
            System.arraycopy(other.keptNext, 0, keptNext, 0, MOST_HANDLERS);
            System.arraycopy(other.keptBlocked, 0, keptBlocked, 0, MOST_HANDLERS);
        }

        private void leaveEntry() {
            pid = 0;
            parent = null;
            pending = 0;
        }

        /* A child that ended, stopped or came to it: the wait is tried again. */
        private void wake() {
            if (state == WAITING) {
                state = READY;
            }
        }

        private void interrupt() {
            if (state == WAITING || state == PAUSED) {
                state = READY;
                registers[interruptRegister] = INTERRUPTED;
                next++;
            }
        }

        /* Sleeps so that its act, the one ahead of next, is next again. */
        private void sleep(int newState, int register) {
            state = newState;
            interruptRegister = register;
            next--;
        }

        private boolean handles(int s) {
            return does[s] >= HANDLER;
        }

        private boolean blocks(int s) {
            return (blocked & 1 << s) != 0;
        }
    }

    private final Program[] programs = new Program[PROGRAMS];
    private final Proc[] procs = new Proc[ENTRIES];

    private final Proc[] rowTargets = new Proc[ROW_LENGTH];
    private final int[] rowSignals = new int[ROW_LENGTH];
    private int rowSize;

    /* While one ends: which entries are stopped in a group that was not orphaned ahead of it. */
    private final boolean[] stoppedInCare = new boolean[ENTRIES];

    private final int[] logPids = new int[LOG_LENGTH];
    private final int[] logNumbers = new int[LOG_LENGTH];
    private int logSize;
    private int logNext;

    private int now;
    private int latestTurn = ENTRIES - 1;
    private int latestPid;
    private int forksDone;
    private int forksRefused;
    private int ended;
    private int signalsSent;
    private int handlersBegun;
    private int panics;

    public ProcessTable() {
        for (int p = 0; p < PROGRAMS; p++) {
            programs[p] = new Program();
        }
        for (int e = 0; e < ENTRIES; e++) {
            procs[e] = new Proc();
        }
    }

    // ---- programs

    public int act(int p, int op, int a, int b) {
        if (!isProgram(p)) {
            return UNKNOWN;
        }
        Program program = programs[p];
        if (program.size >= MOST_ACTS) {
            return FULL;
        }
        program.ops[program.size] = op;
        program.as[program.size] = a;
        program.bs[program.size] = b;
        program.size++;
        return program.size;
    }

    public int wipe(int p) {
        if (!isProgram(p)) {
            return UNKNOWN;
        }
        int had = programs[p].size;
        programs[p].size = 0;
        return had;
    }

    private static boolean isProgram(int p) {
        return p >= 0 && p < PROGRAMS;
    }

    // ---- the run of the table

    public int boot(int p) {
        if (!isProgram(p)) {
            return UNKNOWN;
        }
        if (find(1) != null) {
            return STATE;
        }
        // Without PID 1 the whole table is free, so that the first free entry is entry 0.
        procs[0].begin(1, null, 1, p);
        procs[0].clearRows();
        latestPid = 1;
        latestTurn = ENTRIES - 1;
        return 1;
    }

    public int tick(int n) {
        if (n < 0 || n > MOST_TICKS) {
            return OUTSIDE;
        }
        int taken = 0;
        for (int i = 0; i < n; i++) {
            now++;
            ringAlarms();
            deliverRow();
            int e = nextReady();
            if (e != NONE) {
                taken++;
                latestTurn = e;
                takeTurn(procs[e]);
                deliverRow();
            }
        }
        return taken;
    }

    public int kill(int pid, int s) {
        Proc p = find(pid);
        if (p == null) {
            return UNKNOWN;
        }
        if (!isSignal(s)) {
            return OUTSIDE;
        }
        send(p, s);
        deliverRow();
        return 1;
    }

    private static boolean isSignal(int s) {
        return s >= 1 && s <= SIGNALS;
    }

    private Proc find(int pid) {
        if (pid <= 0) {
            return null;
        }
        for (Proc p : procs) {
            if (p.pid == pid) {
                return p;
            }
        }
        return null;
    }

    private void ringAlarms() {
        for (Proc p : procs) {
            if (p.pid != 0 && p.alarm != 0 && p.alarm == now) {
                p.alarm = 0;
                send(p, ALRM);
            }
        }
    }

    private int nextReady() {
        for (int i = 1; i <= ENTRIES; i++) {
            int e = (latestTurn + i) % ENTRIES;
            if (procs[e].pid != 0 && procs[e].state == READY) {
                return e;
            }
        }
        return NONE;
    }

    private void takeTurn(Proc p) {
        int s = leastSignal(p.pending & ~p.blocked);
        if (s != NONE) {
            beginHandler(p, s);
            return;
        }
        Program program = programs[p.program];
        int i = p.next;
        if (i < 0 || i >= program.size) {
            end(p, 0);
            return;
        }
        p.next = i + 1;
        doAct(p, program.ops[i], program.as[i], program.bs[i]);
        happenPending(p);
    }

    private static int leastSignal(int bits) {
        for (int s = 1; s <= SIGNALS; s++) {
            if ((bits & 1 << s) != 0) {
                return s;
            }
        }
        return NONE;
    }

    private void beginHandler(Proc p, int s) {
        if (p.handlers >= MOST_HANDLERS) {
            end(p, SEGV);
            return;
        }
        p.keptNext[p.handlers] = p.next;
        p.keptBlocked[p.handlers] = p.blocked;
        p.handlers++;
        p.pending &= ~(1 << s);
        p.blocked |= 1 << s;
        p.next = p.does[s] - HANDLER;
        handlersBegun++;
    }

    /* What its own act has let through: one that ends has nothing pending any more, so the loop goes idle. */
    private void happenPending(Proc p) {
        for (int s = 1; s <= SIGNALS; s++) {
            if ((p.pending & 1 << s) != 0 && !p.blocks(s) && !p.handles(s)) {
                p.pending &= ~(1 << s);
                happen(p, s);
            }
        }
    }

    // ---- signals

    private void send(Proc p, int s) {
        if (p == null || rowSize >= ROW_LENGTH) {
            return;
        }
        rowTargets[rowSize] = p;
        rowSignals[rowSize] = s;
        rowSize++;
        signalsSent++;
    }

    private void sendToGroup(int group, int s) {
        for (Proc p : procs) {
            if (p.pid != 0 && p.group == group) {
                send(p, s);
            }
        }
    }

    /* The row grows while it is done: what ends or stops sends more. */
    private void deliverRow() {
        for (int i = 0; i < rowSize && i < ROW_LENGTH; i++) {
            deliver(rowTargets[i], rowSignals[i]);
        }
        rowSize = 0;
    }

    private void deliver(Proc p, int s) {
        // A process may have been freed since the signal came into the row.
        if (p == null || p.pid == 0 || p.state == ZOMBIE) {
            return;
        }
        if (s == CONT) {
            goOn(p);
        }
        if (s == STOP || s == TSTP) {
            p.pending &= ~(1 << CONT);
        }
        if (!p.blocks(s) && !p.handles(s)) {
            happen(p, s);
            return;
        }
        p.pending |= 1 << s;
        if (!p.blocks(s)) {
            p.interrupt();
        }
    }

    private static void goOn(Proc p) {
        p.pending &= ~(1 << STOP | 1 << TSTP);
        if (p.state == STOPPED) {
            p.state = READY;
        }
    }

    private void happen(Proc p, int s) {
        if (p.does[s] == NOTHING || s == CHLD || s == CONT || p.pid == 1) {
            return;
        }
        if (s == STOP || s == TSTP) {
            stop(p, s);
        } else {
            end(p, s);
        }
    }

    private void stop(Proc p, int s) {
        if (p.state == STOPPED) {
            return;
        }
        p.state = STOPPED;
        p.stopSignal = s;
        p.stopTold = false;
        if (p.parent != null) {
            p.parent.wake();
            send(p.parent, CHLD);
        }
    }

    // ---- the end of a process

    private void end(Proc p, int how) {
        ended++;
        if (p.pid == 1) {
            panic();
            return;
        }
        noteStoppedInCare(p);
        leaveChildren(p);
        p.state = ZOMBIE;
        p.howEnded = how;
        p.alarm = 0;
        p.pending = 0;
        Proc parent = p.parent;
        if (parent != null) {
            if (parent.does[CHLD] == NOTHING) {
                p.leaveEntry();
            }
            parent.wake();
            send(parent, CHLD);
        }
        sendToOrphaned();
    }

    private void panic() {
        for (Proc p : procs) {
            p.leaveEntry();
        }
        rowSize = 0;
        panics++;
    }

    private void leaveChildren(Proc p) {
        // PID 1 is in entry 0 as long as it lives.
        Proc first = procs[0];
        for (Proc c : procs) {
            if (c.pid != 0 && c.parent == p) {
                c.parent = first;
                first.wake();
            }
        }
    }

    private void noteStoppedInCare(Proc ending) {
        for (int e = 0; e < ENTRIES; e++) {
            Proc p = procs[e];
            stoppedInCare[e] = p != ending && p.pid != 0 && p.state == STOPPED && !isOrphaned(p.group);
        }
    }

    private void sendToOrphaned() {
        int group = leastGroupInCare(0);
        for (int i = 0; i < ENTRIES && group != NONE; i++) {
            if (isOrphaned(group)) {
                sendToGroup(group, HUP);
                sendToGroup(group, CONT);
            }
            group = leastGroupInCare(group);
        }
    }

    private int leastGroupInCare(int above) {
        int least = NONE;
        for (int e = 0; e < ENTRIES; e++) {
            int group = procs[e].group;
            if (stoppedInCare[e] && group > above && (least == NONE || group < least)) {
                least = group;
            }
        }
        return least;
    }

    private boolean isOrphaned(int group) {
        boolean lives = false;
        for (Proc p : procs) {
            if (p.pid == 0 || p.group != group || p.state == ZOMBIE) {
                continue;
            }
            lives = true;
            // PID 1 has no parent at all, so its own group is never orphaned.
            if (p.parent == null || p.parent.group != group && p.parent.pid != 1) {
                return false;
            }
        }
        return lives;
    }

    // ---- acts

    private void doAct(Proc p, int op, int a, int b) {
        if (op <= OP_TELL) {
            doPlainOp(p, op, a, b);
        } else if (op <= OP_WATCH) {
            doFamilyOp(p, op, a, b);
        } else if (op <= OP_ALARM) {
            doSignalOp(p, op, a, b);
        } else {
            doNameOp(p, op, a, b);
        }
    }

    /* The lowest 3 bits are the number modulo 8, below 0 too. */
    private static int registerOf(int number) {
        return number & (REGISTERS - 1);
    }

    private void doPlainOp(Proc p, int op, int a, int b) {
        int[] r = p.registers;
        int ra = registerOf(a);
        int rb = registerOf(b);
        switch (op) {
            case OP_SET:
                r[ra] = b;
                break;
            case OP_MOVE:
                r[ra] = r[rb];
                break;
            case OP_ADD:
                r[ra] += r[rb];
                break;
            case OP_LESS:
                r[ra] -= r[rb];
                break;
            case OP_JUMP:
                p.next = a;
                break;
            case OP_ZERO:
                p.next = r[ra] == 0 ? b : p.next;
                break;
            case OP_BELOW:
                p.next = r[ra] < 0 ? b : p.next;
                break;
            case OP_TELL:
                writeLog(p.pid, r[ra]);
                break;
            default:
                break;
        }
    }

    private void doFamilyOp(Proc p, int op, int a, int b) {
        int ra = registerOf(a);
        switch (op) {
            case OP_FORK:
                fork(p, ra);
                break;
            case OP_EXEC:
                exec(p, ra, b);
                break;
            case OP_EXIT:
                end(p, 256 * (p.registers[ra] & 255));
                break;
            default:
                awaitChild(p, op, ra, registerOf(b));
                break;
        }
    }

    private void doSignalOp(Proc p, int op, int a, int b) {
        int ra = registerOf(a);
        switch (op) {
            case OP_KILL:
                sendToMeant(p, ra, registerOf(b));
                break;
            case OP_ACTION:
                setAction(p, a, b);
                break;
            case OP_MASK:
                int was = p.blocked;
                p.blocked = p.registers[ra] & BLOCKABLE;
                p.registers[ra] = was;
                break;
            case OP_PAUSE:
                p.sleep(PAUSED, ra);
                break;
            case OP_RETURN:
                if (!returnFromHandler(p)) {
                    end(p, 0);
                }
                break;
            case OP_ALARM:
                setAlarm(p, ra);
                break;
            default:
                break;
        }
    }

    private void doNameOp(Proc p, int op, int a, int b) {
        int ra = registerOf(a);
        switch (op) {
            case OP_OWN:
                p.registers[ra] = p.pid;
                break;
            case OP_PARENT:
                p.registers[ra] = parentOf(p);
                break;
            case OP_GROUP:
                p.registers[ra] = p.group;
                break;
            case OP_JOIN:
                p.registers[ra] = join(p, p.registers[ra], p.registers[registerOf(b)]);
                break;
            default:
                break;
        }
    }

    private static int parentOf(Proc p) {
        return p.parent == null ? 0 : p.parent.pid;
    }

    private void writeLog(int pid, int number) {
        logPids[logNext] = pid;
        logNumbers[logNext] = number;
        logNext = (logNext + 1) % LOG_LENGTH;
        logSize = Math.min(logSize + 1, LOG_LENGTH);
    }

    private void fork(Proc p, int ra) {
        Proc c = firstFree();
        if (c == null) {
            forksRefused++;
            p.registers[ra] = TABLE_FULL;
            return;
        }
        latestPid = newPid();
        c.begin(latestPid, p, p.group, p.program);
        c.copyFrom(p);
        c.registers[ra] = 0;
        p.registers[ra] = latestPid;
        forksDone++;
    }

    private Proc firstFree() {
        for (Proc p : procs) {
            if (p.pid == 0) {
                return p;
            }
        }
        return null;
    }

    /* 24 processes hold at most 48 numbers, so one of the 998 is always found. */
    private int newPid() {
        int pid = latestPid;
        for (int i = 1; i < LAST_PID; i++) {
            pid = pid >= LAST_PID ? 2 : pid + 1;
            if (find(pid) == null && !isGroup(pid)) {
                return pid;
            }
        }
        return pid;
    }

    private boolean isGroup(int group) {
        for (Proc p : procs) {
            if (p.pid != 0 && p.group == group) {
                return true;
            }
        }
        return false;
    }

    private static void exec(Proc p, int ra, int program) {
        if (!isProgram(program)) {
            p.registers[ra] = NO_PROGRAM;
            return;
        }
        p.program = program;
        p.next = 0;
        p.handlers = 0;
        p.didExec = true;
        for (int s = 1; s <= SIGNALS; s++) {
            if (p.handles(s)) {
                p.does[s] = BY_ITSELF;
            }
        }
    }

    private void awaitChild(Proc p, int op, int ra, int rb) {
        int meant = p.registers[ra];
        boolean any = false;
        Proc zombie = null;
        Proc stopped = null;
        for (Proc c : procs) {
            if (isMeantChild(p, meant, c)) {
                any = true;
                zombie = zombie == null && c.state == ZOMBIE ? c : zombie;
                stopped = stopped == null && c.state == STOPPED && !c.stopTold ? c : stopped;
            }
        }
        if (!any) {
            p.registers[ra] = NO_CHILD;
        } else if (zombie != null) {
            p.registers[ra] = zombie.pid;
            p.registers[rb] = zombie.howEnded;
            zombie.leaveEntry();
        } else if (op == OP_WATCH && stopped != null) {
            p.registers[ra] = stopped.pid;
            p.registers[rb] = 256 * stopped.stopSignal + 127;
            stopped.stopTold = true;
        } else if (op == OP_LOOK) {
            p.registers[ra] = 0;
        } else {
            p.sleep(WAITING, ra);
        }
    }

    private static boolean isMeantChild(Proc p, int meant, Proc c) {
        return c.pid != 0 && c.parent == p && means(p, meant, c);
    }

    private static boolean means(Proc p, int meant, Proc q) {
        if (meant > 0) {
            return q.pid == meant;
        }
        if (meant == 0) {
            return q.group == p.group;
        }
        return meant == -1 || q.group == -meant;
    }

    private void sendToMeant(Proc p, int ra, int rb) {
        int meant = p.registers[ra];
        int s = p.registers[rb];
        if (s != 0 && !isSignal(s)) {
            p.registers[ra] = NO_SIGNAL;
            return;
        }
        p.registers[ra] = NO_PROCESS;
        for (Proc q : procs) {
            boolean spared = meant == -1 && (q == p || q.pid == 1);
            if (q.pid != 0 && !spared && means(p, meant, q)) {
                p.registers[ra] = 0;
                if (s != 0) {
                    send(q, s);
                }
            }
        }
    }

    private static void setAction(Proc p, int s, int does) {
        if (isSignal(s) && s != KILL && s != STOP && does >= 0) {
            p.does[s] = does;
        }
    }

    private static boolean returnFromHandler(Proc p) {
        if (p.handlers <= 0 || p.handlers > MOST_HANDLERS) {
            return false;
        }
        p.handlers--;
        p.next = p.keptNext[p.handlers];
        p.blocked = p.keptBlocked[p.handlers];
        return true;
    }

    private void setAlarm(Proc p, int ra) {
        int ticks = p.registers[ra];
        p.registers[ra] = untilAlarm(p);
        p.alarm = ticks > 0 ? (long) now + ticks : 0;
    }

    private int untilAlarm(Proc p) {
        return p.alarm == 0 ? 0 : (int) (p.alarm - now);
    }

    private int join(Proc p, int pid, int wanted) {
        Proc q = pid == 0 ? p : find(pid);
        if (q == null || q != p && (q.parent != p || q.state == ZOMBIE)) {
            return NO_PROCESS;
        }
        if (q != p && q.didExec) {
            return CHILD_DID_EXEC;
        }
        int group = wanted == 0 ? q.pid : wanted;
        if (group != q.pid && !isGroup(group)) {
            return NO_SUCH_GROUP;
        }
        q.group = group;
        return 0;
    }

    // ---- what is told of the table

    public int entry(int e) {
        return e < 0 || e >= ENTRIES ? UNKNOWN : procs[e].pid;
    }

    public int told(int pid, int what) {
        Proc p = find(pid);
        if (p == null) {
            return UNKNOWN;
        }
        switch (what) {
            case 0:
                return p.state;
            case 1:
                return parentOf(p);
            case 2:
                return p.group;
            case 3:
                return p.program;
            case 4:
                return p.next;
            case 5:
                return p.pending;
            case 6:
                return p.blocked;
            case 7:
                return p.handlers;
            case 8:
                return untilAlarm(p);
            case 9:
                return p.howEnded;
            default:
                return OUTSIDE;
        }
    }

    public int register(int pid, int r) {
        Proc p = find(pid);
        if (p == null) {
            return UNKNOWN;
        }
        return r < 0 || r >= REGISTERS ? OUTSIDE : p.registers[r];
    }

    public int action(int pid, int s) {
        Proc p = find(pid);
        if (p == null) {
            return UNKNOWN;
        }
        return isSignal(s) ? p.does[s] : OUTSIDE;
    }

    public int child(int pid, int i) {
        Proc p = find(pid);
        if (p == null) {
            return UNKNOWN;
        }
        int seen = 0;
        for (Proc c : procs) {
            if (c.pid != 0 && c.parent == p) {
                if (seen == i) {
                    return c.pid;
                }
                seen++;
            }
        }
        return 0;
    }

    public int members(int group) {
        int found = 0;
        for (Proc p : procs) {
            if (p.pid != 0 && p.group == group) {
                found++;
            }
        }
        return found;
    }

    public int log(int i, int what) {
        if (what != 0 && what != 1) {
            return OUTSIDE;
        }
        if (i < 0 || i >= logSize) {
            return NONE;
        }
        int at = (logNext + LOG_LENGTH - 1 - i) % LOG_LENGTH;
        return what == 0 ? logPids[at] : logNumbers[at];
    }

    public int count(int what) {
        switch (what) {
            case 0:
                return countProcesses();
            case 1:
                return countInState(ZOMBIE);
            case 2:
                return countInState(READY);
            case 3:
                return now;
            case 4:
                return forksDone;
            case 5:
                return forksRefused;
            case 6:
                return ended;
            case 7:
                return signalsSent;
            case 8:
                return handlersBegun;
            case 9:
                return panics;
            default:
                return OUTSIDE;
        }
    }

    private int countProcesses() {
        int found = 0;
        for (Proc p : procs) {
            if (p.pid != 0) {
                found++;
            }
        }
        return found;
    }

    private int countInState(int state) {
        int found = 0;
        for (Proc p : procs) {
            if (p.pid != 0 && p.state == state) {
                found++;
            }
        }
        return found;
    }
}
