import java.util.concurrent.Callable;

/**
 * Long runs of mixed calls, the same ones each time: the program and the model answer alike and look
 * alike after each call, and once the line is good again all texts come together.
 */
public final class ModelTest {
    private static final int RUNS = 600;
    private static final int CALLS = 480;

    private long state;
    private final JointText x = new JointText();
    private final Model model = new Model();

    private ModelTest(int seed) {
        state = seed * 0x9E3779B97F4A7C15L + 1;
    }

    /** A number from 0 to below the bound, by a fixed rule. */
    private int next(int bound) {
        state = state * 6364136223846793005L + 1442695040888963407L;
        return (int) ((state >>> 33) % bound);
    }

    private static String answer(Callable<?> call) {
        try {
            return String.valueOf(call.call());
        } catch (Exception e) {
            return e.getClass().getSimpleName();
        }
    }

    /** Mostly one of the clients, now and then none. */
    private int client() {
        return next(40) == 0 ? next(7) - 3 : next(3);
    }

    private int position(int client) {
        int length = client >= 0 && client < 3 ? x.length(client) : 1;
        return next(length + 3) - 1;
    }

    /** Mostly the first message, so that much gets through; else any, or none. */
    private int place() {
        return next(3) > 0 ? 0 : next(x.waiting() + 2) - 1;
    }

    private void call(String name, Callable<?> program, Callable<?> due) {
        Check.same(name, answer(program), answer(due));
        Check.same("after " + name, Check.all(x), model.all());
    }

    private void write() {
        int c = client();
        int p = position(c);
        int character = 30 + next(99);
        int kind = next(10);
        if (kind < 5) {
            call("insert", () -> x.insert(c, p, character), () -> model.insert(c, p, character));
        } else if (kind < 8) {
            call("erase", () -> x.erase(c, p), () -> model.erase(c, p));
        } else {
            call("undo", () -> x.undo(c), () -> model.undo(c));
        }
    }

    private void disturb() {
        int k = place();
        int c = client();
        int bits = next(3) * 85 + 256 * next(2);
        boolean on = next(3) > 0;
        int how = next(5) - 1;
        switch (next(8)) {
            case 0 -> call("lose", () -> x.lose(k), () -> model.lose(k));
            case 1 -> call("repeat", () -> x.repeat(k), () -> model.repeat(k));
            case 2 -> call("harm", () -> x.harm(k, bits), () -> model.harm(k, bits));
            case 3, 4 -> call("connect", () -> x.connect(c, on), () -> model.connect(c, on));
            case 5 -> call("trip", () -> x.trip(how), () -> model.trip(how));
            case 6 -> call("crash", x::crash, model::crash);
            default -> call("restart", x::restart, model::restart);
        }
    }

    private void tick() {
        x.tick();
        model.tick();
        Check.same("after tick", Check.all(x), model.all());
    }

    private void deliver(int k) {
        call("deliver", () -> x.deliver(k), () -> model.deliver(k));
    }

    private void mixed(int trouble) {
        int kind = next(100);
        if (kind < 22) {
            write();
        } else if (kind < 22 + trouble) {
            disturb();
        } else if (kind < 28 + trouble) {
            tick();
        } else {
            deliver(place());
        }
    }

    /** All go on, nothing is lost any more, and enough is sent again. */
    private void comeTogether() {
        x.restart();
        x.trip(0);
        for (int c = 0; c < 3; c++) {
            x.connect(c, true);
        }
        for (int round = 0; round < 60; round++) {
            Check.drain(x);
            x.tick();
        }
        Check.drain(x);
        for (int c = 0; c < 3; c++) {
            // With a full history, edits may stay pending for ever and texts apart.
            if (x.revision(3) < 60) {
                Check.same("pending at the end", x.pending(c), 0);
                Check.same("text at the end", Check.text(x, c), Check.text(x, 3));
            }
        }
    }

    public static void main(String[] args) {
        int together = 0;
        for (int run = 0; run < RUNS; run++) {
            ModelTest test = new ModelTest(run);
            for (int i = 0; i < (run % 2 == 0 ? CALLS : CALLS / 4); i++) {
                test.mixed(run % 3 * 8);
            }
            test.comeTogether();
            together += test.x.revision(3) < 60 ? 1 : 0;
        }
        Check.same("enough runs end before the history is full", together > RUNS / 4, true);
        Check.finish();
    }
}
