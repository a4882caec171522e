import java.util.ArrayList;
import java.util.List;

/**
 * A run of calls that is played on a new object each time it is looked at: so an object can be looked
 * at from all sides, and be put to what would use it up, without going behind its 512th call.
 */
final class Scene {
    interface Calls {
        void on(CountedText x);
    }

    interface Call {
        Object on(CountedText x);
    }

    /** Marks are harmed with this in all scenes, so that harming them with it again mends them. */
    static final int HARM = 5;

    private static final List<Call> LOOKS = looks();

    private final Calls calls;
    private String seen;

    Scene(Calls calls) {
        this.calls = calls;
    }

    static Scene fresh() {
        return new Scene(x -> { });
    }

    Scene then(Calls more) {
        return new Scene(x -> {
            calls.on(x);
            more.on(x);
        });
    }

    CountedText play() {
        CountedText x = new CountedText();
        calls.on(x);
        return x;
    }

    void answers(String what, Object due, Call call) {
        CountedText x = play();
        Check.same(what, Check.answer(() -> call.on(x)), due);
    }

    /** A look: it answers so, and leaves everything as it was. */
    void shows(String what, Object due, Call look) {
        refuses(what, due, look);
    }

    /** The call answers so, or throws so, and leaves everything as it was. */
    void refuses(String what, Object due, Call call) {
        answers(what, due, call);
        Scene after = then(x -> Check.answer(() -> call.on(x)));
        Check.same(what + ", and all as it was", after.seen(), seen());
    }

    /** The call does something that can be seen, so a look at it tells it from one that is refused. */
    void changes(String what, Object due, Call call) {
        answers(what, due, call);
        Scene after = then(x -> Check.answer(() -> call.on(x)));
        Check.same(what + " changes something", after.seen().equals(seen()), false);
    }

    /** Nothing tells the two apart. */
    void isAs(String what, Scene other) {
        Check.same(what, seen(), other.seen());
    }

    String seen() {
        if (seen == null) {
            StringBuilder all = new StringBuilder();
            for (Call look : LOOKS) {
                all.append(look.on(play())).append('\n');
            }
            seen = all.toString();
        }
        return seen;
    }

    /** What can be seen, and what comes out of the state that can't: each on an object of its own. */
    private static List<Call> looks() {
        List<Call> looks = new ArrayList<>();
        for (int side = 0; side <= Check.SERVER; side++) {
            int of = side;
            looks.add(x -> Check.text(x, of) + ' ' + x.revision(of) + ' ' + x.pending(of));
        }
        for (int what = 0; what <= 4; what++) {
            int part = what;
            looks.add(x -> ops(x, part));
        }
        looks.add(Check::messages);
        for (int client = 0; client < 3; client++) {
            int of = client;
            looks.add(x -> undone(x, of));
            looks.add(x -> x.connect(of, true) + Check.messages(x));
            looks.add(x -> nextOp(x, of));
        }
        looks.add(Scene::delivered);
        looks.add(Scene::mended);
        looks.add(x -> x.restart() + " " + x.crash() + x.restart() + Check.text(x, Check.SERVER));
        looks.add(Scene::ticked);
        return looks;
    }

    private static String ops(CountedText x, int what) {
        StringBuilder seen = new StringBuilder();
        int count = x.revision(Check.SERVER);
        for (int i = 0; i < count; i++) {
            seen.append(x.op(i, what)).append(' ');
        }
        return seen.toString();
    }

    /** The log and what of it is undone shows in what undoing answers and makes. */
    private static String undone(CountedText x, int client) {
        StringBuilder seen = new StringBuilder();
        for (int i = 0; i < 20; i++) {
            seen.append(Check.answer(() -> x.undo(client))).append(' ');
        }
        return seen + Check.text(x, client);
    }

    /** A trip shows at the next op that is written. */
    private static String nextOp(CountedText x, int client) {
        Check.loseAll(x);
        x.connect(client, true);
        Object made = Check.answer(() -> x.insert(client, 0, 'z'));
        x.tick();
        x.deliver(0);
        x.deliver(0);
        x.deliver(0);
        return made + " " + x.length(Check.SERVER) + " " + x.revision(Check.SERVER) + " "
                + x.waiting();
    }

    private static String delivered(CountedText x) {
        StringBuilder seen = new StringBuilder();
        for (int i = 0; i < 60; i++) {
            seen.append(x.deliver(0)).append(' ');
        }
        for (int side = 0; side <= Check.SERVER; side++) {
            seen.append(x.revision(side)).append(' ').append(x.pending(side)).append(' ')
                    .append(x.length(side)).append(' ');
        }
        return seen.toString();
    }

    private static String mended(CountedText x) {
        StringBuilder seen = new StringBuilder();
        for (int k = 0; x.harm(k, HARM); k++) {
            seen.append(x.message(k, 4)).append(' ');
        }
        return seen.toString();
    }

    /** The edits as they are pending: what comes of the first ones when they are sent again. */
    private static String ticked(CountedText x) {
        Check.loseAll(x);
        x.tick();
        String sent = Check.messages(x);
        x.deliver(0);
        x.deliver(0);
        x.deliver(0);
        int last = x.revision(Check.SERVER);
        return sent + Check.op(x, last - 3) + Check.op(x, last - 2) + Check.op(x, last - 1);
    }
}
