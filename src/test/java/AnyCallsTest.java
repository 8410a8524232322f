import java.util.Random;

/** Any calls with any arguments: none throws, and what the table tells of itself fits together. */
public final class AnyCallsTest {
    private static final int[] EDGES = {Check.MIN, Check.MIN + 1, -1002, -21, -4, -3, -2, -1, 0, 1, 2, 3, 8, 9, 17, 18,
        19, 20, 21, 24, 59, 60, 200, 999, Check.MAX};

    private static final int MOST_CLOSELY = 8;

    public static void main(String[] args) {
        for (int seed = 0; seed < 4000; seed++) {
            wildRun(new Random(seed));
            livelyRun(new Random(seed));
        }
        Check.finish();
    }

    private static int any(Random random) {
        return random.nextInt(4) == 0 ? random.nextInt() : EDGES[random.nextInt(EDGES.length)];
    }

    private static void wildRun(Random random) {
        ProcessTable t = new ProcessTable();
        for (int i = 0; i < 200; i++) {
            call(t, random.nextInt(13), random);
        }
        fitsTogether(t);
    }

    private static void call(ProcessTable t, int which, Random random) {
        int a = any(random);
        int b = any(random);
        switch (which) {
            case 0 -> t.act(a, random.nextInt(25), b, any(random));
            case 1 -> t.wipe(a);
            case 2 -> t.boot(a);
            case 3 -> t.tick(a);
            case 4 -> t.kill(a, b);
            case 5 -> t.entry(a);
            case 6 -> t.told(a, b);
            case 7 -> t.register(a, b);
            case 8 -> t.action(a, b);
            case 9 -> t.child(a, b);
            case 10 -> t.members(a);
            case 11 -> t.log(a, b);
            default -> t.count(a);
        }
    }

    /** Programs of small numbers, so that much forks, waits, stops and ends. */
    private static void livelyRun(Random random) {
        ProcessTable t = new ProcessTable();
        int programs = 1 + random.nextInt(2);
        for (int p = 0; p < programs; p++) {
            int length = 10 + random.nextInt(30);
            for (int i = 0; i < length; i++) {
                livelyAct(t, p, length, random);
            }
        }
        int steps = random.nextInt(40);
        for (int i = 0; i < steps; i++) {
            t.boot(random.nextInt(programs));
            int taken = t.tick(random.nextInt(30));
            Check.due("5: turns in bounds", taken >= 0 && taken < 30 ? 0 : 1, 0);
            t.kill(t.entry(random.nextInt(24)), 1 + random.nextInt(20));
        }
        fitsTogether(t);
    }

    private static void livelyAct(ProcessTable t, int p, int length, Random random) {
        int op = random.nextInt(24);
        int a = random.nextInt(8);
        int b = random.nextInt(8);
        switch (op) {
            case Check.SET -> b = random.nextInt(26) - 4;
            case Check.JUMP -> a = random.nextInt(length);
            case Check.ZERO, Check.BELOW -> b = random.nextInt(length);
            case Check.EXEC -> b = random.nextInt(4);
            case Check.EXIT, Check.RETURN -> op = random.nextInt(3) == 0 ? op : Check.FORK;
            case Check.ACTION -> {
                a = 1 + random.nextInt(20);
                b = random.nextInt(length);
            }
            default -> { }
        }
        t.act(p, op, a, b);
    }

    /** Looks at the first eight processes closely, no more, as an object is promised to answer 512 calls. */
    private static void fitsTogether(ProcessTable t) {
        int processes = 0;
        int zombies = 0;
        int ready = 0;
        for (int e = 0; e < 24; e++) {
            int pid = t.entry(e);
            if (pid != 0) {
                processes++;
                zombies += t.told(pid, 0) == Check.ZOMBIE ? 1 : 0;
                ready += t.told(pid, 0) == Check.READY ? 1 : 0;
                if (processes <= MOST_CLOSELY) {
                    processFits(t, pid);
                }
            }
        }
        Check.due("14: processes", t.count(0), processes);
        Check.due("14: zombies", t.count(1), zombies);
        Check.due("14: ready", t.count(2), ready);
        Check.due("14: PID 1 is there, or nobody", t.told(1, 0) == Check.UNKNOWN ? processes : 0, 0);
    }

    private static void processFits(ProcessTable t, int pid) {
        Check.due("8: a PID in bounds", pid >= 1 && pid <= 999 ? 0 : pid, 0);
        int parent = t.told(pid, 1);
        boolean cared = pid == 1 ? parent == 0 : t.told(parent, 0) >= 0 && t.told(parent, 0) != Check.ZOMBIE;
        Check.due("8: a living parent", cared ? 0 : parent, 0);
        Check.due("12: a member of its group", t.members(t.told(pid, 2)) > 0 ? 0 : 1, 0);
        Check.due("8: never blocked", t.told(pid, Check.BLOCKED) & (1 << 9 | 1 << 19 | ~0x1FFFFE), 0);
        Check.due("8: never pending", t.told(pid, Check.PENDING) & (1 << 9 | 1 << 19 | ~0x1FFFFE), 0);
        Check.due("8: handlers in bounds", t.told(pid, Check.HANDLERS) >>> 3, 0);
        int let = t.told(pid, Check.PENDING) & ~t.told(pid, Check.BLOCKED);
        for (int s = 1; s <= 20; s++) {
            if ((let & 1 << s) != 0) {
                Check.due("6: what is pending and not blocked has a handler", t.action(pid, s) >= 2 ? 0 : s, 0);
            }
        }
        if (t.told(pid, 0) == Check.ZOMBIE) {
            Check.due("6: nothing pending of a zombie", t.told(pid, Check.PENDING), 0);
            Check.due("6: no child of a zombie", t.child(pid, 0), 0);
        }
    }
}
