/** Promises 5 to 11 where they end: for each sentence that names a boundary, a test of its own. */
public final class ViewEdgeTest {
    private static final int[] NO_SIDES = {-1, 4, 5, Integer.MIN_VALUE, Integer.MAX_VALUE};
    private static final int[] NO_CLIENTS = {-1, 3, 4, Integer.MIN_VALUE, Integer.MAX_VALUE};
    private static final int[] NO_PARTS = {-1, 5, 6, Integer.MIN_VALUE, Integer.MAX_VALUE};
    private static final int[] FAR = {-1, -2, 100, Integer.MIN_VALUE, Integer.MAX_VALUE};

    /** The texts of 0, 1, 2 and the server are abc, abcd, ab and abc; their revisions 3, 3, 2, 3. */
    private static final Scene APART = new Scene(x -> {
        Check.type(x, 0, "ab");
        x.connect(2, false);
        Check.type(x, 0, "c");
        x.insert(1, 3, 'd');
    });

    private static final Scene DOWN = APART.then(x -> x.crash());

    private static final Scene FULL = new Scene(x -> Check.fill(x, 1, 0, 60));

    /** Nothing is written yet, and the server is down. */
    private static final Scene DOWN_WITHOUT_OPS = new Scene(x -> x.crash());

    /** length: "-1 if there is none such". */
    private static void lengthSides() {
        for (int side : NO_SIDES) {
            APART.refuses("length of " + side, -1, x -> x.length(side));
            DOWN.refuses("length of " + side + " while down", -1, x -> x.length(side));
        }
        int[] due = {3, 4, 2, 3};
        for (int side = 0; side <= Check.SERVER; side++) {
            int of = side;
            APART.shows("length of " + of, due[of], x -> x.length(of));
        }
    }

    /** length: "-1 if ... the server is down", and only the server's. */
    private static void lengthWhileDown() {
        DOWN.refuses("length of the server while down", -1, x -> x.length(3));
        DOWN.answers("length of 0 while down", 3, x -> x.length(0));
        DOWN.answers("length of 2 while down", 2, x -> x.length(2));
        DOWN.then(x -> x.restart()).answers("length when up again", 3, x -> x.length(3));
        DOWN_WITHOUT_OPS.answers("length of none while down", -1, x -> x.length(3));
        Scene up = DOWN_WITHOUT_OPS.then(x -> x.restart());
        up.answers("length of none when up again", 0, x -> x.length(3));
    }

    private static void lengthsFromEmptyToFull() {
        Scene one = new Scene(x -> Check.fill(x, 1, 0, 1));
        for (int side = 0; side <= Check.SERVER; side++) {
            int of = side;
            Scene.fresh().answers("empty " + of, 0, x -> x.length(of));
            one.answers("one " + of, 1, x -> x.length(of));
            FULL.answers("full " + of, 60, x -> x.length(of));
            Scene none = one.then(x -> {
                x.erase(0, 0);
                Check.drain(x);
            });
            none.answers("empty again " + of, 0, x -> x.length(of));
        }
    }

    /** character: "IllegalArgumentException if there is none such". */
    private static void characterSides() {
        for (int side : NO_SIDES) {
            APART.refuses("character of " + side, Check.ARGUMENT, x -> x.character(side, 0));
        }
        for (int side = 0; side <= Check.SERVER; side++) {
            int of = side;
            APART.shows("character of " + of, (int) 'b', x -> x.character(of, 1));
        }
    }

    /** character: "IllegalStateException if the server is down", and only for the server. */
    private static void characterWhileDown() {
        DOWN.refuses("character of the server", Check.STATE, x -> x.character(3, 0));
        DOWN_WITHOUT_OPS.refuses("character of none", Check.STATE, x -> x.character(3, 0));
        DOWN.answers("character of 0", (int) 'a', x -> x.character(0, 0));
        DOWN.answers("character of 1", (int) 'd', x -> x.character(1, 3));
        DOWN.answers("character of 2", (int) 'b', x -> x.character(2, 1));
        DOWN.refuses("no character of 2", Check.INDEX, x -> x.character(2, 2));
        Scene up = DOWN.then(x -> x.restart());
        up.answers("character when up again", (int) 'c', x -> x.character(3, 2));
    }

    /** character: "IndexOutOfBoundsException if there is no character". */
    private static void characterPositions() {
        String[] texts = {"abc", "abcd", "ab", "abc"};
        for (int side = 0; side <= Check.SERVER; side++) {
            int of = side;
            int last = texts[of].length() - 1;
            APART.answers("first of " + of, (int) 'a', x -> x.character(of, 0));
            APART.answers("last of " + of, (int) texts[of].charAt(last), x -> x.character(of, last));
            APART.refuses("behind it", Check.INDEX, x -> x.character(of, last + 1));
            for (int p : FAR) {
                APART.refuses("character at " + p, Check.INDEX, x -> x.character(of, p));
            }
            Scene.fresh().refuses("of an empty text", Check.INDEX, x -> x.character(of, 0));
            FULL.answers("last of 60", (int) 'h', x -> x.character(of, 59));
            FULL.refuses("behind 60", Check.INDEX, x -> x.character(of, 60));
        }
    }

    /** What was erased is no character any more. */
    private static void characterBehindErased() {
        Scene erased = APART.then(x -> x.erase(0, 2));
        erased.answers("last of two", (int) 'b', x -> x.character(0, 1));
        erased.refuses("where the third was", Check.INDEX, x -> x.character(0, 2));
    }

    private static void characterOrder() {
        DOWN.refuses("side and down", Check.ARGUMENT, x -> x.character(4, 0));
        DOWN.refuses("side, down and position", Check.ARGUMENT, x -> x.character(-1, -1));
        APART.refuses("side and position", Check.ARGUMENT, x -> x.character(4, 99));
        DOWN.refuses("down and position", Check.STATE, x -> x.character(3, 99));
        DOWN.refuses("down and position -1", Check.STATE, x -> x.character(3, -1));
    }

    /** revision: "-1 if there is none such". */
    private static void revisionSides() {
        for (int side : NO_SIDES) {
            APART.refuses("revision of " + side, -1, x -> x.revision(side));
            DOWN.refuses("revision of " + side + " while down", -1, x -> x.revision(side));
        }
        int[] due = {3, 3, 2, 3};
        for (int side = 0; side <= Check.SERVER; side++) {
            int of = side;
            APART.shows("revision of " + of, due[of], x -> x.revision(of));
            Scene.fresh().answers("none of " + of, 0, x -> x.revision(of));
            FULL.answers("60 of " + of, 60, x -> x.revision(of));
        }
    }

    /** revision: "of its journal, if it is down". */
    private static void revisionOfTheJournal() {
        DOWN.shows("of the journal", 3, x -> x.revision(3));
        DOWN.answers("of 2 while down", 2, x -> x.revision(2));
        DOWN_WITHOUT_OPS.answers("of an empty journal", 0, x -> x.revision(3));
        FULL.then(x -> x.crash()).answers("of a full journal", 60, x -> x.revision(3));
        Scene tripped = APART.then(x -> {
            x.trip(2);
            x.deliver(0);
        });
        tripped.answers("with the op written at last", 4, x -> x.revision(3));
        Scene before = APART.then(x -> {
            x.trip(1);
            x.deliver(0);
        });
        before.answers("without the op not written", 3, x -> x.revision(3));
    }

    /** pending: "-1 if there is none such". */
    private static void pendingClients() {
        for (int client : NO_CLIENTS) {
            APART.refuses("pending of " + client, -1, x -> x.pending(client));
        }
        APART.answers("pending of 0", 0, x -> x.pending(0));
        APART.shows("pending of 1", 1, x -> x.pending(1));
        APART.answers("pending of 2", 0, x -> x.pending(2));
    }

    private static void pendingFrom0To8() {
        CountedText x = new CountedText();
        for (int count = 0; count < 8; count++) {
            Check.same("pending", x.pending(2), count);
            x.insert(2, 0, 'a');
        }
        Check.same("pending, most", x.pending(2), 8);
        Check.answer(() -> x.insert(2, 0, 'a'));
        Check.same("pending, still", x.pending(2), 8);
        for (int count = 8; count > 0; count--) {
            Check.same("pending", x.pending(2), count);
            Check.deliver(x, 4);
        }
        Check.same("pending, none", x.pending(2), 0);
        Check.same("pending of 0", x.pending(0), 0);
    }

    /** The journal: an INSERT of 0, an ERASE of 1 and one of 2 that does nothing. */
    private static final Scene OPS = new Scene(x -> {
        Check.type(x, 0, "ab");
        x.erase(1, 1);
        x.erase(2, 1);
        Check.drain(x);
    });

    /** op: "-1 if there is none such", of i. */
    private static void opPlaces() {
        Scene down = OPS.then(x -> x.crash());
        for (int what = 0; what <= 4; what++) {
            int part = what;
            Scene.fresh().refuses("op 0 of none", -1, x -> x.op(0, part));
            for (int i : new int[] {4, 5, 60, -1, -2, Integer.MIN_VALUE, Integer.MAX_VALUE}) {
                OPS.refuses("op " + i, -1, x -> x.op(i, part));
                down.refuses("op " + i + " while down", -1, x -> x.op(i, part));
            }
            FULL.refuses("op 60 of 60", -1, x -> x.op(60, part));
        }
        OPS.shows("the first", "1 0 97 0 0", x -> Check.op(x, 0));
        OPS.shows("the last", "0 0 0 2 0", x -> Check.op(x, 3));
        down.shows("the last while down", "0 0 0 2 0", x -> Check.op(x, 3));
        FULL.answers("the last of 60", "1 59 104 1 59", x -> Check.op(x, 59));
    }

    /** op: "-1 if there is none such", of what. */
    private static void opParts() {
        for (int what : NO_PARTS) {
            OPS.refuses("what " + what, -1, x -> x.op(0, what));
            OPS.refuses("what " + what + " of no op", -1, x -> x.op(9, what));
        }
        int[] due = {1, 1, 'b', 0, 1};
        for (int what = 0; what <= 4; what++) {
            int part = what;
            OPS.shows("what " + part, due[part], x -> x.op(1, part));
        }
    }

    /** op: "its character (2; 0 if it is no INSERT)". */
    private static void opCharacters() {
        OPS.answers("of an INSERT", (int) 'b', x -> x.op(1, 2));
        OPS.answers("of an ERASE", 0, x -> x.op(2, 2));
        OPS.answers("of nothing", 0, x -> x.op(3, 2));
        Scene erased = new Scene(x -> {
            Check.type(x, 0, "a");
            x.undo(0);
            x.insert(1, 0, 'z');
            x.erase(1, 0);
            Check.drain(x);
        });
        erased.answers("of an ERASE by an UNDO", "2 0 0 0 1", x -> Check.op(x, 1));
    }

    /** op: "(Where it does nothing the position is 0.)" */
    private static void opThatDoesNothing() {
        OPS.answers("an ERASE at 1", 1, x -> x.op(2, 1));
        OPS.answers("nothing, that was an ERASE at 1", 0, x -> x.op(3, 1));
        Scene movedByClient = new Scene(x -> {
            Check.type(x, 0, "abc");
            x.erase(1, 2);
            x.lose(0);
            x.erase(0, 2);
            Check.drain(x);
            x.tick();
            Check.drain(x);
        });
        movedByClient.answers("what its client moved", "0 0 0 1 0", x -> Check.op(x, 4));
    }

    /** waiting: 0 at first, 30 at most. */
    private static void waitingFrom0To30() {
        CountedText x = new CountedText();
        for (int count = 0; count < 30; count += 3) {
            Check.same("waiting", x.waiting(), count);
            x.tick();
        }
        Check.same("waiting, most", x.waiting(), 30);
        x.tick();
        Check.same("waiting, still", x.waiting(), 30);
        for (int count = 30; count > 0; count--) {
            Check.same("waiting", x.waiting(), count);
            x.lose(0);
        }
        Check.same("waiting, none", x.waiting(), 0);
        x.lose(0);
        Check.same("waiting, none still", x.waiting(), 0);
    }

    /** An EDIT, an ASK and NEWS wait, each with numbers of its own. */
    private static final Scene MESSAGES = new Scene(x -> {
        Check.type(x, 1, "ab");
        x.insert(1, 2, 'c');
        x.deliver(0);
        x.deliver(1);
        x.insert(1, 3, 'd');
        x.tick();
        x.harm(1, Scene.HARM);
    });

    /** message: "-1 if there is none such", of k. */
    private static void messagePlaces() {
        Scene full = Scene.fresh().then(x -> {
            for (int i = 0; i < 10; i++) {
                x.tick();
            }
        });
        for (int what = 0; what <= 4; what++) {
            int part = what;
            Scene.fresh().refuses("message 0 of none", -1, x -> x.message(0, part));
            for (int k : new int[] {6, 7, 30, -1, -2, Integer.MIN_VALUE, Integer.MAX_VALUE}) {
                MESSAGES.refuses("message " + k, -1, x -> x.message(k, part));
            }
            full.refuses("message 30 of 30", -1, x -> x.message(30, part));
        }
        MESSAGES.answers("6 wait", 6, x -> x.waiting());
        MESSAGES.shows("the first", "2 0 2 2 1", x -> Check.message(x, 0));
        MESSAGES.shows("the last", "1 2 2 0 1", x -> Check.message(x, 5));
        full.shows("the last of 30", "1 2 0 0 1", x -> Check.message(x, 29));
        MESSAGES.then(x -> x.lose(5)).refuses("no more", -1, x -> x.message(5, 0));
    }

    /** message: "-1 if there is none such", of what. */
    private static void messageParts() {
        for (int what : NO_PARTS) {
            MESSAGES.refuses("what " + what, -1, x -> x.message(0, what));
            MESSAGES.refuses("what " + what + " of no message", -1, x -> x.message(6, what));
        }
        MESSAGES.shows("of an EDIT", "0 1 3 3 1", x -> Check.message(x, 2));
    }

    /** message: "the number of an EDIT or NEWS, else 0". */
    private static void messageNumbers() {
        MESSAGES.answers("of NEWS", 2, x -> x.message(0, 3));
        MESSAGES.answers("of an EDIT", 3, x -> x.message(2, 3));
        MESSAGES.answers("of an ASK", 0, x -> x.message(3, 3));
    }

    /** An ASK of a client that got edits back has no number all the same. */
    private static void messageNumberOfAsk() {
        Scene asked = new Scene(x -> {
            Check.type(x, 1, "ab");
            x.tick();
        });
        asked.answers("ASK of 1", "1 1 2 0 1", x -> Check.message(x, 1));
    }

    /** message: "1 if it is whole, 0 if it is damaged". */
    private static void messageDamage() {
        MESSAGES.answers("whole", 1, x -> x.message(0, 4));
        MESSAGES.answers("damaged", "2 2 2 2 0", x -> Check.message(x, 1));
        Scene mended = MESSAGES.then(x -> x.harm(1, Scene.HARM));
        mended.answers("whole again", "2 2 2 2 1", x -> Check.message(x, 1));
    }

    public static void main(String[] args) {
        lengthSides();
        lengthWhileDown();
        lengthsFromEmptyToFull();
        characterSides();
        characterWhileDown();
        characterPositions();
        characterBehindErased();
        characterOrder();
        revisionSides();
        revisionOfTheJournal();
        pendingClients();
        pendingFrom0To8();
        opPlaces();
        opParts();
        opCharacters();
        opThatDoesNothing();
        waitingFrom0To30();
        messagePlaces();
        messageParts();
        messageNumbers();
        messageNumberOfAsk();
        messageDamage();
        Check.finish();
    }
}
