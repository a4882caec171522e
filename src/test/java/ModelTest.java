import java.util.concurrent.Callable;

/**
 * Long runs of mixed calls, the same ones each time: the program and the model answer alike, and once
 * the line is good again all texts come together. Some runs write as fast as they can at first, since
 * mixed calls alone never fill a history or a text. No object is used for more than its 512 calls.
 */
public final class ModelTest {
    private static final int RUNS = 4000;
    private static final int FILLING_RUNS = 1500;
    private static final int CALLS_BEFORE_COMING_TOGETHER = 110;
    // Enough to read four texts.
    private static final int CALLS_TO_READ = 200;
    private static final int CALLS_ONCE_FILLED = 60;
    private static final int FULL = 60;

    private long state;
    private final CountedText x = new CountedText();
    private final Model model = new Model();

    private ModelTest(int seed) {
        state = seed * 0x9E3779B97F4A7C15L + 1;
    }

    /** A number from 0 to below the bound, by a fixed rule. */
    private int next(int bound) {
        state = state * 6364136223846793005L + 1442695040888963407L;
        return (int) ((state >>> 33) % bound);
    }

    /** Mostly one of the clients, now and then none. */
    private int client() {
        return next(40) == 0 ? next(7) - 3 : next(3);
    }

    /** Mostly within the text, now and then just outside. */
    private int position(int side) {
        return next(Math.max(model.length(side), 0) + 3) - 1;
    }

    /** Mostly the first message, so that much gets through; else any, or none. */
    private int place() {
        return next(3) > 0 ? 0 : next(model.waiting() + 2) - 1;
    }

    private void call(String name, Callable<?> program, Callable<?> due) {
        Check.same(name, Check.answer(program), Check.answer(due));
    }

    private void insert() {
        int c = client();
        int p = position(c);
        int character = 30 + next(99);
        call("insert", () -> x.insert(c, p, character), () -> model.insert(c, p, character));
    }

    private void write() {
        int c = client();
        int p = position(c);
        int kind = next(10);
        if (kind < 5) {
            insert();
        } else if (kind < 8) {
            call("erase", () -> x.erase(c, p), () -> model.erase(c, p));
        } else {
            call("undo", () -> x.undo(c), () -> model.undo(c));
        }
    }

    private void look() {
        int side = next(40) == 0 ? next(9) - 3 : next(4);
        int p = position(side);
        int k = next(model.waiting() + 2) - 1;
        int i = next(model.revision(3) + 2) - 1;
        int what = next(7) - 1;
        switch (next(12)) {
            case 0 -> call("length", () -> x.length(side), () -> model.length(side));
            case 1 -> call("revision", () -> x.revision(side), () -> model.revision(side));
            case 2 -> call("pending", () -> x.pending(side), () -> model.pending(side));
            case 3 -> call("waiting", x::waiting, model::waiting);
            case 4, 5 -> call("op", () -> x.op(i, what), () -> model.op(i, what));
            case 6, 7 -> call("message", () -> x.message(k, what), () -> model.message(k, what));
            default -> call("character", () -> x.character(side, p), () -> model.character(side, p));
        }
    }

    private void disturb() {
        int k = place();
        int c = client();
        int bits = next(3) * 85 + 256 * next(2);
        boolean on = next(3) > 0;
        int how = next(5) - 1;
        switch (next(8)) {
            case 0 -> call("lose", () -> x.lose(k), () -> model.lose(k));
            case 1 -> call("repeat", () -> x.repeat(k), () -> model.repeat(k));
            case 2 -> call("harm", () -> x.harm(k, bits), () -> model.harm(k, bits));
            case 3, 4 -> call("connect", () -> x.connect(c, on), () -> model.connect(c, on));
            case 5 -> call("trip", () -> x.trip(how), () -> model.trip(how));
            case 6 -> call("crash", x::crash, model::crash);
            default -> call("restart", x::restart, model::restart);
        }
    }

    private void tick() {
        x.tick();
        model.tick();
    }

    private void deliver(int k) {
        call("deliver", () -> x.deliver(k), () -> model.deliver(k));
    }

    private void mixed(int trouble) {
        int kind = next(120);
        if (kind < 22) {
            write();
        } else if (kind < 42) {
            look();
        } else if (kind < 42 + trouble) {
            disturb();
        } else if (kind < 48 + trouble) {
            tick();
        } else {
            deliver(place());
        }
    }

    /** One call of a run that fills the history soon; more and more waits if it writes eagerly. */
    private void filling(int eagerness) {
        if (!model.up) {
            call("restart", x::restart, model::restart);
        } else if (next(60) == 0) {
            mixed(16);
        } else if (next(100) < eagerness) {
            insert();
        } else if (next(30) == 0) {
            write();
        } else if (model.waiting() == 0) {
            tick();
        } else {
            deliver(0);
        }
    }

    private int longestText() {
        int longest = 0;
        for (int c = 0; c < 3; c++) {
            longest = Math.max(longest, model.length(c));
        }
        return longest;
    }

    /** All go on, nothing is lost any more, and enough is sent again. */
    private boolean comesTogether() {
        call("restart", x::restart, model::restart);
        call("trip", () -> x.trip(0), () -> model.trip(0));
        for (int c = 0; c < 3; c++) {
            int of = c;
            call("connect", () -> x.connect(of, true), () -> model.connect(of, true));
        }
        while (!model.isTogether() && x.callsLeft() > CALLS_TO_READ) {
            if (model.waiting() == 0) {
                tick();
            } else {
                deliver(0);
            }
        }
        return model.isTogether();
    }

    private void textsAreAlike() {
        String due = Check.text(x, Check.SERVER);
        Check.same("text of the server", due, model.text.toString());
        for (int c = 0; c < 3; c++) {
            Check.same("text of " + c, Check.text(x, c), due);
        }
    }

    private static void mixedRuns() {
        int together = 0;
        for (int run = 0; run < RUNS; run++) {
            ModelTest test = new ModelTest(run);
            boolean toEnd = run % 2 == 0;
            int keep = toEnd ? 0 : CountedText.MOST_CALLS - CALLS_BEFORE_COMING_TOGETHER;
            while (test.x.callsLeft() > keep) {
                test.mixed(run % 3 * 8);
            }
            if (!toEnd && test.comesTogether()) {
                test.textsAreAlike();
                together++;
            }
        }
        Check.same("most that could come together", together > RUNS / 3, true);
    }

    private static void fillingRuns() {
        int fullHistories = 0;
        int fullTexts = 0;
        int textsBehindFull = 0;
        for (int run = 0; run < FILLING_RUNS; run++) {
            ModelTest test = new ModelTest(RUNS + run);
            int longest = 0;
            while (test.model.revision(3) < FULL && test.x.callsLeft() > CALLS_ONCE_FILLED) {
                test.filling(20 + run % 4 * 5);
                longest = Math.max(longest, test.longestText());
            }
            fullHistories += test.model.revision(3) == FULL ? 1 : 0;
            while (test.x.callsLeft() > 0) {
                test.mixed(run % 3 * 8);
                longest = Math.max(longest, test.longestText());
            }
            fullTexts += longest >= FULL ? 1 : 0;
            textsBehindFull += longest > FULL ? 1 : 0;
        }
        Check.same("many histories get full", fullHistories > FILLING_RUNS / 3, true);
        Check.same("many texts get full", fullTexts > FILLING_RUNS / 3, true);
        Check.same("many texts get longer still", textsBehindFull > FILLING_RUNS / 10, true);
    }

    public static void main(String[] args) {
        mixedRuns();
        fillingRuns();
        Check.finish();
    }
}
