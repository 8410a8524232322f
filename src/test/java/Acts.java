import java.util.ArrayList;
import java.util.HashMap;
import java.util.List;
import java.util.Map;

/** A program whose acts have names, so that a test need not count them. */
final class Acts {
    /** The register that sleepers pause by: -4 there tells that one was interrupted. */
    static final int SLEEP = 7;

    private final List<int[]> acts = new ArrayList<>();
    private final Map<String, Integer> names = new HashMap<>();
    /** Of an act that goes to a named one: that name, and what is added to its number. */
    private final Map<Integer, String> goals = new HashMap<>();
    private final Map<Integer, Integer> added = new HashMap<>();

    Acts at(String name) {
        names.put(name, acts.size());
        return this;
    }

    Acts op(int op, int a, int b) {
        acts.add(new int[] {op, a, b});
        return this;
    }

    Acts op(int op, int a) {
        return op(op, a, 0);
    }

    Acts idle(int times) {
        for (int i = 0; i < times; i++) {
            op(Check.IDLE, 0, 0);
        }
        return this;
    }

    Acts set(int r, int number) {
        return op(Check.SET, r, number);
    }

    Acts jump(String name) {
        return toward(name, 0).op(Check.JUMP, 0, 0);
    }

    Acts zero(int r, String name) {
        return toward(name, 0).op(Check.ZERO, r, 0);
    }

    Acts below(int r, String name) {
        return toward(name, 0).op(Check.BELOW, r, 0);
    }

    /** Two acts: FORK, and the child goes to its name. */
    Acts fork(int r, String child) {
        return op(Check.FORK, r).zero(r, child);
    }

    Acts handle(int s, String name) {
        return toward(name, 2).op(Check.ACTION, s, 0);
    }

    /** BLOCKED becomes these bits, by way of a register. */
    Acts mask(int r, int bits) {
        return set(r, bits).op(Check.MASK, r);
    }

    Acts alarm(int r, int ticks) {
        return set(r, ticks).op(Check.ALARM, r);
    }

    /** Pauses for ever, also behind a handler. */
    Acts sleep() {
        return op(Check.PAUSE, SLEEP).op(Check.JUMP, acts.size() - 1);
    }

    private Acts toward(String name, int more) {
        goals.put(acts.size(), name);
        added.put(acts.size(), more);
        return this;
    }

    /** The number of the act of that name. */
    int number(String name) {
        return names.get(name);
    }

    void load(ProcessTable t, int p) {
        for (int i = 0; i < acts.size(); i++) {
            int[] act = acts.get(i);
            int a = act[1];
            int b = act[2];
            if (goals.containsKey(i)) {
                int goal = names.get(goals.get(i)) + added.get(i);
                a = act[0] == Check.JUMP ? goal : a;
                b = act[0] == Check.JUMP ? b : goal;
            }
            if (t.act(p, act[0], a, b) < 0) {
                throw new IllegalStateException("the program of the test has no room");
            }
        }
    }

    /** A new table with PID 1 of these acts, behind so many ticks. */
    ProcessTable boot(int ticks) {
        ProcessTable t = new ProcessTable();
        load(t, 0);
        t.boot(0);
        t.tick(ticks);
        return t;
    }
}
