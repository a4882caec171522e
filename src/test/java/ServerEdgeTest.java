/** Promises 18 to 20 where they end: for each sentence that names a boundary, a test of its own. */
public final class ServerEdgeTest {
    private static final int[] NO_TRIPS = {-1, 3, 4, 256, 257, Integer.MIN_VALUE, Integer.MAX_VALUE};

    /** The text is ab; an EDIT of client 1 that makes it xab waits. */
    private static final Scene EDIT_WAITS = new Scene(x -> {
        Check.type(x, 0, "ab");
        x.insert(1, 0, 'x');
    });

    /** 59 ops are written, and the EDIT that makes the 60th waits. */
    private static final Scene LAST_EDIT_WAITS = new Scene(x -> {
        Check.fill(x, 0, 0, 59);
        x.insert(1, 59, 'z');
    });

    private static Scene tripped(Scene scene, int how) {
        return scene.then(x -> x.trip(how));
    }

    private static Scene delivered(Scene scene) {
        return scene.then(x -> x.deliver(0));
    }

    /** trip: "False, refused, if how is not 0 .. 2", and what was set before is set still. */
    private static void tripRefuses() {
        for (int how : NO_TRIPS) {
            EDIT_WAITS.refuses("trip " + how, false, x -> x.trip(how));
            for (int set = 0; set <= 2; set++) {
                Scene before = tripped(EDIT_WAITS, set);
                before.refuses("trip " + how + " behind " + set, false, x -> x.trip(how));
            }
            Scene down = EDIT_WAITS.then(x -> x.crash());
            down.refuses("trip " + how + " while down", false, x -> x.trip(how));
        }
    }

    private static void tripTakes() {
        EDIT_WAITS.refuses("trip 0", true, x -> x.trip(0));
        EDIT_WAITS.changes("trip 1", true, x -> x.trip(1));
        EDIT_WAITS.changes("trip 2", true, x -> x.trip(2));
        for (int how = 0; how <= 2; how++) {
            Scene set = tripped(EDIT_WAITS, how);
            set.answers("it is up still", 2, x -> x.length(3));
            int same = how;
            set.refuses("the same trip again", true, x -> x.trip(same));
        }
    }

    /** trip: "how = 1 before that is written". */
    private static void tripBefore() {
        for (Scene scene : new Scene[] {EDIT_WAITS, LAST_EDIT_WAITS}) {
            Scene after = delivered(tripped(scene, 1));
            tripped(scene, 1).changes("the EDIT", 0, x -> x.deliver(0));
            after.answers("it is down", -1, x -> x.length(3));
            after.answers("no NEWS", 0, x -> x.waiting());
            after.answers("pending still", 1, x -> x.pending(1));
            after.isAs("as if it had crashed and lost the EDIT", scene.then(x -> {
                x.crash();
                x.lose(0);
            }));
        }
        Scene down = delivered(tripped(EDIT_WAITS, 1));
        down.answers("not written", 2, x -> x.revision(3));
        down.refuses("no op 2", -1, x -> x.op(2, 0));
    }

    /** trip: "2 when it is written, before anything else". */
    private static void tripWhenWritten() {
        Scene down = delivered(tripped(EDIT_WAITS, 2));
        tripped(EDIT_WAITS, 2).changes("the EDIT", 0, x -> x.deliver(0));
        down.answers("it is down", -1, x -> x.length(3));
        down.answers("no NEWS", 0, x -> x.waiting());
        down.answers("written", 3, x -> x.revision(3));
        down.answers("the op", "1 0 120 1 0", x -> Check.op(x, 2));
        Scene up = down.then(x -> x.restart());
        up.answers("in the text when up again", "xab", x -> Check.text(x, 3));
        Scene last = delivered(tripped(LAST_EDIT_WAITS, 2));
        last.answers("the 60th is written", 60, x -> x.revision(3));
        last.answers("the 60th op", "1 59 122 1 0", x -> Check.op(x, 59));
        last.then(x -> x.restart()).answers("60 characters", 60, x -> x.length(3));
    }

    /** trip: "0 not at all". */
    private static void tripNotAtAll() {
        for (int how = 0; how <= 2; how++) {
            Scene none = tripped(tripped(EDIT_WAITS, how), 0);
            none.isAs("trip 0 behind " + how, EDIT_WAITS);
            delivered(none).answers("it is up", 3, x -> x.length(3));
            delivered(none).answers("NEWS", 3, x -> x.waiting());
        }
        tripped(tripped(EDIT_WAITS, 1), 2).isAs("2 behind 1", tripped(EDIT_WAITS, 2));
        tripped(tripped(EDIT_WAITS, 2), 1).isAs("1 behind 2", tripped(EDIT_WAITS, 1));
    }

    /** trip: "at the next op that it is about to write", so at nothing that writes none. */
    private static void tripOnlyAtWriting() {
        Scene old = EDIT_WAITS.then(x -> {
            x.repeat(0);
            x.deliver(0);
            x.tick();
        });
        Scene full = LAST_EDIT_WAITS.then(x -> {
            x.deliver(0);
            Check.deliver(x, 3);
            x.erase(2, 0);
        });
        for (int how = 1; how <= 2; how++) {
            Scene trip = tripped(old, how);
            trip.then(x -> x.deliver(0)).answers("an old EDIT", 3, x -> x.length(3));
            trip.then(x -> x.deliver(1)).answers("NEWS", 3, x -> x.length(3));
            trip.then(x -> x.deliver(4)).answers("an ASK", 3, x -> x.length(3));
            Scene harmed = tripped(EDIT_WAITS, how).then(x -> x.harm(0, Scene.HARM));
            harmed.then(x -> x.deliver(0)).answers("a damaged EDIT", 2, x -> x.length(3));
            Scene lost = tripped(EDIT_WAITS, how).then(x -> x.lose(0));
            lost.answers("a lost EDIT", 2, x -> x.length(3));
            Scene noRoom = delivered(tripped(full, how));
            noRoom.answers("an EDIT without room", 60, x -> x.length(3));
        }
    }

    /** An op that does nothing is written too. */
    private static void tripAtNothing() {
        Scene nothing = EDIT_WAITS.then(x -> {
            x.lose(0);
            x.erase(0, 0);
            x.erase(2, 0);
            x.deliver(0);
            x.trip(2);
            x.deliver(0);
        });
        nothing.answers("it is down", -1, x -> x.length(3));
        nothing.answers("nothing is written", "0 0 0 2 0", x -> Check.op(x, 3));
    }

    /** crash: "False, refused, if it is down". */
    private static void crashRefuses() {
        EDIT_WAITS.changes("crash", true, x -> x.crash());
        EDIT_WAITS.then(x -> x.crash()).refuses("crash again", false, x -> x.crash());
        Scene.fresh().changes("crash without ops", true, x -> x.crash());
        Scene.fresh().then(x -> x.crash()).refuses("crash again", false, x -> x.crash());
        for (int how = 1; how <= 2; how++) {
            Scene down = delivered(tripped(EDIT_WAITS, how));
            down.refuses("crash behind a trip", false, x -> x.crash());
        }
        Scene up = EDIT_WAITS.then(x -> {
            x.crash();
            x.restart();
        });
        up.changes("crash when up again", true, x -> x.crash());
    }

    /** crash: "(messages stay)", 30 of them, too. */
    private static void crashKeepsMessages() {
        Scene all = EDIT_WAITS.then(x -> {
            for (int i = 0; i < 10; i++) {
                x.tick();
            }
            x.harm(7, Scene.HARM);
        });
        String before = Check.messages(all.play());
        all.answers("30 wait", 30, x -> x.waiting());
        all.then(x -> x.crash()).answers("they stay", before, Check::messages);
        Scene up = all.then(x -> {
            x.crash();
            x.restart();
        });
        up.answers("they stay still", before, Check::messages);
        up.isAs("a crash and a restart change nothing", all);
    }

    /** restart: "False, refused, if it is up", and a trip that is set is set still. */
    private static void restartRefuses() {
        Scene.fresh().refuses("restart of a new one", false, x -> x.restart());
        for (int how = 0; how <= 2; how++) {
            tripped(EDIT_WAITS, how).refuses("restart, trip " + how, false, x -> x.restart());
        }
        Scene down = EDIT_WAITS.then(x -> x.crash());
        down.changes("restart", true, x -> x.restart());
        down.then(x -> x.restart()).refuses("restart again", false, x -> x.restart());
    }

    /** restart: "with history and text as the ops in the journal make them", none to all 60. */
    private static void restartFromJournal() {
        Scene none = Scene.fresh().then(x -> {
            x.crash();
            x.restart();
        });
        none.isAs("restart without ops", Scene.fresh());
        Scene one = new Scene(x -> Check.type(x, 0, "a"));
        one.then(x -> {
            x.crash();
            x.restart();
        }).isAs("restart with one op", one);
        Scene full = LAST_EDIT_WAITS.then(x -> Check.deliver(x, 4));
        Scene again = full.then(x -> {
            x.crash();
            x.restart();
        });
        again.answers("text of 60 ops", Check.filled(59) + "z", x -> Check.text(x, 3));
        again.isAs("restart with 60 ops", full);
    }

    /** After a restart the history counts each author's ops, so an old EDIT is known as old. */
    private static void restartKnowsNumbers() {
        Scene up = tripped(EDIT_WAITS, 2).then(x -> {
            x.repeat(0);
            x.deliver(0);
            x.restart();
        });
        Scene again = up.then(x -> x.deliver(0));
        again.answers("no second op", 3, x -> x.revision(3));
        again.answers("NEWS of the first", "<2 1 2 0 1>", Check::messages);
    }

    /** restart: "it is not to crash any more (trip)". */
    private static void restartForgetsTrip() {
        for (int how = 1; how <= 2; how++) {
            Scene before = tripped(EDIT_WAITS, how).then(x -> {
                x.crash();
                x.restart();
            });
            before.isAs("trip " + how + ", crash, restart", EDIT_WAITS);
            int set = how;
            Scene meanwhile = EDIT_WAITS.then(x -> {
                x.crash();
                x.trip(set);
                x.restart();
            });
            meanwhile.isAs("crash, trip " + how + ", restart", EDIT_WAITS);
            Scene after = delivered(tripped(EDIT_WAITS, how)).then(x -> {
                x.restart();
                x.insert(0, 0, 'n');
                x.deliver(0);
            });
            after.answers("the op behind it", 2 + how, x -> x.length(3));
        }
    }

    public static void main(String[] args) {
        tripRefuses();
        tripTakes();
        tripBefore();
        tripWhenWritten();
        tripNotAtAll();
        tripOnlyAtWriting();
        tripAtNothing();
        crashRefuses();
        crashKeepsMessages();
        restartRefuses();
        restartFromJournal();
        restartKnowsNumbers();
        restartForgetsTrip();
        Check.finish();
    }
}
