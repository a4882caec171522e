/** Promises 18 to 20: trip, crash, restart. */
public final class ServerTest {
    private static void tripBefore() {
        CountedText x = new CountedText();
        Check.type(x, 0, "a");
        x.trip(1);
        x.insert(1, 0, 'b');
        Check.same("the EDIT", x.deliver(0), 0);
        Check.same("down", x.length(3), -1);
        Check.same("not written", x.revision(3), 1);
        Check.same("no NEWS", x.waiting(), 0);
        Check.same("restart", x.restart(), true);
        Check.same("text from the journal", Check.text(x, 3), "a");
        x.tick();
        Check.drain(x);
        Check.same("trips no more", x.length(3), 2);
        Check.texts("sent again", x, "ba");
    }

    private static void tripWhenWritten() {
        CountedText x = new CountedText();
        Check.type(x, 0, "a");
        x.trip(2);
        x.insert(1, 1, 'b');
        Check.same("the EDIT", x.deliver(0), 0);
        Check.same("down", x.length(3), -1);
        Check.same("written", x.revision(3) + ": " + Check.op(x, 1), "2: 1 1 98 1 0");
        Check.same("no NEWS", x.waiting(), 0);
        Check.same("still pending", x.pending(1), 1);
        x.restart();
        Check.same("text from the journal", Check.text(x, 3), "ab");
        x.tick();
        Check.drain(x);
        Check.same("written once", x.revision(3), 2);
        Check.same("pending no more", x.pending(1), 0);
        Check.texts("all have it", x, "ab");
    }

    private static void tripWaitsForWriting() {
        CountedText x = new CountedText();
        x.insert(0, 0, 'a');
        x.repeat(0);
        x.deliver(0);
        x.trip(1);
        x.tick();
        Check.drain(x);
        Check.same("old EDITs, ASKs and NEWS do not trip", x.length(3), 1);
        x.trip(0);
        Check.type(x, 0, "b");
        Check.same("trip 0: not at all", x.length(3), 2);
        x.trip(2);
        x.trip(1);
        x.insert(0, 0, 'c');
        x.deliver(0);
        Check.same("the last trip counts", x.revision(3), 2);
    }

    private static void restartForgetsTrip() {
        CountedText x = new CountedText();
        x.trip(1);
        x.crash();
        x.restart();
        Check.type(x, 0, "a");
        Check.same("a trip before the crash", x.length(3), 1);
        x.crash();
        Check.same("a trip while down", x.trip(2), true);
        x.restart();
        Check.type(x, 0, "b");
        Check.same("is forgotten, too", x.length(3), 2);
    }

    private static void crashes() {
        CountedText x = new CountedText();
        Check.type(x, 0, "ab");
        x.insert(1, 0, 'c');
        x.tick();
        String before = waiting(x);
        Check.same("crash", x.crash(), true);
        Check.same("down already", x.crash(), false);
        Check.same("messages stay", waiting(x), before);
        Check.same("EDIT to it is taken out", x.deliver(0), 0);
        Check.same("ASK to it is taken out", x.deliver(0), 1);
        Check.same("and lost", x.waiting() + " " + x.revision(3), "2 2");
        Check.same("clients go on", x.insert(0, 0, 'd'), 1);
        Check.same("and send", x.waiting(), 3);
    }

    private static String waiting(CountedText x) {
        StringBuilder row = new StringBuilder();
        for (int k = 0; k < x.waiting(); k++) {
            row.append(Check.message(x, k)).append(", ");
        }
        return row.toString();
    }

    private static void newsGoOnWhileDown() {
        CountedText x = new CountedText();
        x.insert(0, 0, 'a');
        x.deliver(0);
        x.crash();
        Check.same("NEWS to 0", x.deliver(0), 2);
        Check.same("gets there", x.pending(0) + " " + x.revision(0), "0 1");
    }

    private static void restarts() {
        CountedText x = new CountedText();
        Check.same("up already", x.restart(), false);
        Check.type(x, 0, "abc");
        x.erase(1, 0);
        x.erase(2, 0);
        Check.drain(x);
        x.insert(2, 1, 'd');
        Check.drain(x);
        String before = Check.all(x);
        x.crash();
        Check.same("restart", x.restart(), true);
        Check.same("up already again", x.restart(), false);
        Check.same("all as it was", Check.all(x), before);
        Check.type(x, 1, "e");
        Check.texts("goes on", x, "bdce");
        x.crash();
        x.restart();
        Check.texts("a second time", x, "bdce");
    }

    public static void main(String[] args) {
        tripBefore();
        tripWhenWritten();
        tripWaitsForWriting();
        restartForgetsTrip();
        crashes();
        newsGoOnWhileDown();
        restarts();
        Check.finish();
    }
}
