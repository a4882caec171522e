/** Promises 5 to 11: length, character, revision, pending, op, waiting, message. */
public final class ViewTest {
    private static void lengths() {
        CountedText x = new CountedText();
        Check.type(x, 0, "ab");
        x.insert(1, 0, 'c');
        Check.same("length of 0", x.length(0), 2);
        Check.same("length of 1", x.length(1), 3);
        Check.same("length of the server", x.length(3), 2);
        Check.same("no side 4", x.length(4), -1);
        Check.same("no side -1", x.length(-1), -1);
        x.crash();
        Check.same("server down", x.length(3), -1);
        Check.same("client with server down", x.length(1), 3);
        x.restart();
        Check.same("server up again", x.length(3), 2);
    }

    private static void characters() {
        CountedText x = new CountedText();
        Check.type(x, 0, "ab");
        x.insert(1, 1, 'c');
        Check.same("of 0", x.character(0, 1), (int) 'b');
        Check.same("of 1", x.character(1, 1), (int) 'c');
        Check.same("of 1, the last", x.character(1, 2), (int) 'b');
        Check.same("of the server", x.character(3, 1), (int) 'b');
        Check.fails("no side 4", Check.ARGUMENT, () -> x.character(4, 0));
        Check.fails("no side -1", Check.ARGUMENT, () -> x.character(-1, 9));
        Check.fails("p -1", Check.INDEX, () -> x.character(0, -1));
        Check.fails("p behind the last", Check.INDEX, () -> x.character(0, 2));
        Check.fails("p far off", Check.INDEX, () -> x.character(3, Integer.MIN_VALUE));
        x.crash();
        Check.fails("down", Check.STATE, () -> x.character(3, 0));
        Check.fails("down before position", Check.STATE, () -> x.character(3, 99));
        Check.fails("side before down", Check.ARGUMENT, () -> x.character(4, 99));
        Check.same("client with server down", x.character(0, 0), (int) 'a');
    }

    private static void revisions() {
        CountedText x = new CountedText();
        Check.type(x, 0, "ab");
        x.connect(2, false);
        Check.type(x, 0, "c");
        Check.same("of 0", x.revision(0), 3);
        Check.same("of 1", x.revision(1), 3);
        Check.same("of 2, off", x.revision(2), 2);
        Check.same("of the server", x.revision(3), 3);
        Check.same("no side 4", x.revision(4), -1);
        Check.same("no side -1", x.revision(-1), -1);
        x.crash();
        Check.same("of the journal", x.revision(3), 3);
    }

    private static void pendings() {
        CountedText x = new CountedText();
        x.insert(0, 0, 'a');
        x.insert(0, 0, 'b');
        x.insert(2, 0, 'c');
        Check.same("of 0", x.pending(0), 2);
        Check.same("of 1", x.pending(1), 0);
        Check.same("of 2", x.pending(2), 1);
        Check.same("the server is no client", x.pending(3), -1);
        Check.same("no client -1", x.pending(-1), -1);
        x.deliver(0);
        Check.same("in the history, but not back", x.pending(0), 2);
        x.deliver(1);
        Check.same("back", x.pending(0), 1);
    }

    private static void ops() {
        CountedText x = new CountedText();
        Check.type(x, 0, "abc");
        x.erase(1, 2);
        x.erase(2, 2);
        Check.drain(x);
        x.insert(1, 1, '~');
        Check.drain(x);
        Check.same("an INSERT", Check.op(x, 2), "1 2 99 0 2");
        Check.same("an ERASE bears no character", Check.op(x, 3), "2 2 0 1 0");
        Check.same("nothing, at 0, of its author", Check.op(x, 4), "0 0 0 2 0");
        Check.same("a second of the author", Check.op(x, 5), "1 1 126 1 1");
        Check.same("no op 6", Check.op(x, 6), "-1 -1 -1 -1 -1");
        Check.same("no op -1", Check.op(x, -1), "-1 -1 -1 -1 -1");
        Check.same("no what 5", x.op(0, 5), -1);
        Check.same("no what -1", x.op(0, -1), -1);
        x.crash();
        Check.same("of the journal", Check.op(x, 3), "2 2 0 1 0");
        Check.same("no op in a new one", new CountedText().op(0, 0), -1);
    }

    private static void messages() {
        CountedText x = new CountedText();
        Check.type(x, 1, "ab");
        x.insert(1, 0, 'c');
        x.tick();
        Check.same("waiting", x.waiting(), 4);
        Check.same("EDIT, sent", Check.message(x, 0), "0 1 2 2 1");
        Check.same("ASK of 0", Check.message(x, 1), "1 0 2 0 1");
        Check.same("EDIT, sent again", Check.message(x, 2), "0 1 2 2 1");
        Check.same("ASK of 2", Check.message(x, 3), "1 2 2 0 1");
        x.deliver(0);
        Check.same("NEWS to 0", Check.message(x, 3), "2 0 2 2 1");
        Check.same("NEWS to 1", Check.message(x, 4), "2 1 2 2 1");
        Check.same("NEWS to 2", Check.message(x, 5), "2 2 2 2 1");
        Check.same("no message 6", Check.message(x, 6), "-1 -1 -1 -1 -1");
        Check.same("no message -1", Check.message(x, -1), "-1 -1 -1 -1 -1");
        Check.same("no what 5", x.message(0, 5), -1);
        Check.same("no what -1", x.message(0, -1), -1);
        Check.same("looking takes nothing out", x.waiting(), 6);
        Check.loseAll(x);
        Check.same("none waits", x.waiting(), 0);
        Check.same("no message 0", Check.message(x, 0), "-1 -1 -1 -1 -1");
    }

    public static void main(String[] args) {
        lengths();
        characters();
        revisions();
        pendings();
        ops();
        messages();
        Check.finish();
    }
}
