/** Promises 1 to 4 where they end: for each sentence that names a boundary, a test of its own. */
public final class EditEdgeTest {
    private static final int[] NO_CLIENTS = {-1, 3, 4, Integer.MIN_VALUE, Integer.MAX_VALUE};

    /** Something of everything: others' edits, pending ones, messages, a damaged one, an OFF client. */
    private static final Scene MIXED = new Scene(x -> {
        Check.type(x, 0, "abc");
        Check.type(x, 1, "d");
        x.erase(2, 1);
        x.insert(0, 4, 'e');
        x.insert(0, 0, 'f');
        x.harm(1, Scene.HARM);
        x.connect(1, false);
        x.trip(2);
    });

    private static Scene pending(int edits) {
        return new Scene(x -> {
            Check.type(x, 1, "xyz");
            for (int i = 0; i < edits; i++) {
                x.insert(0, i, 'a' + i);
            }
        });
    }

    /** Client 0 has a text of that length, its last seven characters pending. */
    private static Scene length(int length) {
        return new Scene(x -> {
            Check.fill(x, 0, 0, length - 7);
            for (int p = length - 7; p < length; p++) {
                x.insert(0, p, 'A' + p % 26);
            }
        });
    }

    /** Client 0 is at 60 when an edit of client 1 comes: so a text may be longer than 60. */
    private static final Scene SIXTY_ONE = length(60).then(x -> {
        x.lose(0);
        x.insert(1, 0, '1');
        Check.deliver(x, 4);
    });

    /** Client 0 has a text of 60 and made no edit of it. */
    private static final Scene SIXTY_OF_OTHERS = new Scene(x -> Check.fill(x, 1, 0, 60));

    /** "Empty texts, no messages." */
    private static void newObject() {
        Scene fresh = Scene.fresh();
        for (int side = 0; side <= Check.SERVER; side++) {
            int of = side;
            fresh.answers("new: length of " + of, 0, x -> x.length(of));
            fresh.refuses("new: no character of " + of, Check.INDEX, x -> x.character(of, 0));
            fresh.answers("new: revision of " + of, 0, x -> x.revision(of));
        }
        for (int client = 0; client < 3; client++) {
            int of = client;
            fresh.answers("new: pending of " + of, 0, x -> x.pending(of));
            fresh.refuses("new: ON " + of, false, x -> x.connect(of, true));
            fresh.refuses("new: nothing to erase " + of, Check.INDEX, x -> x.erase(of, 0));
            fresh.refuses("new: nothing to undo " + of, Check.ELEMENT, x -> x.undo(of));
        }
        fresh.answers("new: waiting", 0, x -> x.waiting());
        fresh.answers("new: no op", -1, x -> x.op(0, 0));
        fresh.refuses("new: up", false, x -> x.restart());
    }

    private static void objectsAreApart() {
        CountedText x = new CountedText();
        CountedText y = new CountedText();
        Check.type(x, 0, "a");
        x.tick();
        Check.same("another object", y.length(0) + " " + y.waiting() + " " + y.revision(3), "0 0 0");
    }

    /** insert: "IllegalArgumentException if there is no such client". */
    private static void insertClients() {
        for (int client : NO_CLIENTS) {
            MIXED.refuses("insert, client " + client, Check.ARGUMENT, x -> x.insert(client, 0, 'a'));
        }
        for (int client = 0; client < 3; client++) {
            int of = client;
            Scene.fresh().changes("insert, client " + of, 1, x -> x.insert(of, 0, 'a'));
        }
    }

    /** insert: "or the character is not 32 .. 126". */
    private static void insertCharacters() {
        int[] none = {31, 127, 0, -1, -32, 128, 'a' + 128, 'a' + 256, 'a' + 65536,
            Integer.MIN_VALUE, Integer.MAX_VALUE};
        for (int character : none) {
            MIXED.refuses("insert " + character, Check.ARGUMENT, x -> x.insert(0, 0, character));
        }
        for (int character : new int[] {32, 33, 125, 126}) {
            CountedText x = new CountedText();
            Check.same("insert " + character, x.insert(0, 0, character), 1);
            Check.drain(x);
            Check.texts("insert " + character, x, String.valueOf((char) character));
            Check.same("op of " + character, Check.op(x, 0), "1 0 " + character + " 0 0");
        }
    }

    /** insert: "IndexOutOfBoundsException if p is not 0 .. the length of its text". */
    private static void insertPositions() {
        int[] far = {-1, -2, Integer.MIN_VALUE, Integer.MAX_VALUE};
        for (int p : far) {
            MIXED.refuses("insert at " + p, Check.INDEX, x -> x.insert(0, p, 'a'));
            Scene.fresh().refuses("insert at " + p, Check.INDEX, x -> x.insert(0, p, 'a'));
        }
        Scene.fresh().refuses("insert at 1 of an empty text", Check.INDEX, x -> x.insert(0, 1, 'a'));
        Scene.fresh().changes("insert at 0 of an empty text", 1, x -> x.insert(0, 0, 'a'));
        Scene abc = new Scene(x -> Check.type(x, 1, "abc"));
        String[] due = {"zabc", "azbc", "abzc", "abcz"};
        for (int at = 0; at < due.length; at++) {
            int p = at;
            abc.changes("insert at " + p, 1, x -> x.insert(2, p, 'z'));
            abc.then(x -> x.insert(2, p, 'z')).answers("text", due[p], x -> Check.text(x, 2));
        }
        abc.refuses("insert at 4 of 3", Check.INDEX, x -> x.insert(2, 4, 'z'));
    }

    /** It is "its text", not that of another client or of the server. */
    private static void insertPositionsAreOfItsText() {
        Scene apart = new Scene(x -> {
            Check.type(x, 1, "abc");
            x.insert(0, 0, 'd');
            x.erase(1, 0);
        });
        apart.changes("insert at 4, client 0 has 4", 2, x -> x.insert(0, 4, 'z'));
        apart.refuses("insert at 4, client 2 has 3", Check.INDEX, x -> x.insert(2, 4, 'z'));
        apart.refuses("insert at 3, client 1 has 2", Check.INDEX, x -> x.insert(1, 3, 'z'));
        apart.changes("insert at 2, client 1 has 2", 2, x -> x.insert(1, 2, 'z'));
    }

    /** insert: "IllegalStateException if 8 edits are pending". */
    private static void insertPending() {
        pending(6).changes("insert with 6 pending", 7, x -> x.insert(0, 0, 'z'));
        pending(7).changes("insert with 7 pending", 8, x -> x.insert(0, 0, 'z'));
        pending(8).refuses("insert with 8 pending", Check.STATE, x -> x.insert(0, 0, 'z'));
        pending(8).changes("insert of another client", 1, x -> x.insert(1, 0, 'z'));
        Scene written = pending(8).then(x -> x.deliver(0));
        written.refuses("insert with 8 not back", Check.STATE, x -> x.insert(0, 0, 'z'));
        Scene back = written.then(x -> x.deliver(0));
        back.changes("insert when one is back", 8, x -> x.insert(0, 0, 'z'));
        Scene again = back.then(x -> x.insert(0, 0, 'z'));
        again.refuses("insert with 8 pending again", Check.STATE, x -> x.insert(0, 0, 'z'));
    }

    /** insert: "or its text has 60 characters or more". */
    private static void insertIntoFullText() {
        length(58).changes("insert into 58", 8, x -> x.insert(0, 58, 'z'));
        length(59).changes("insert into 59", 8, x -> x.insert(0, 59, 'z'));
        length(59).then(x -> x.insert(0, 0, 'z')).answers("60 then", 60, x -> x.length(0));
        length(60).refuses("insert into 60", Check.STATE, x -> x.insert(0, 60, 'z'));
        length(60).refuses("insert into 60 at 0", Check.STATE, x -> x.insert(0, 0, 'z'));
        length(60).changes("insert into 53 of client 1", 1, x -> x.insert(1, 53, 'z'));
        SIXTY_ONE.answers("61 characters", 61, x -> x.length(0));
        SIXTY_ONE.refuses("insert into 61", Check.STATE, x -> x.insert(0, 0, 'z'));
        Scene sixty = SIXTY_ONE.then(x -> x.erase(0, 60));
        sixty.refuses("insert into 60 again", Check.STATE, x -> x.insert(0, 0, 'z'));
        SIXTY_OF_OTHERS.refuses("insert into 60 of others", Check.STATE, x -> x.insert(0, 0, 'z'));
        Scene less = SIXTY_OF_OTHERS.then(x -> x.erase(0, 59));
        less.changes("insert into 59 of others", 2, x -> x.insert(0, 59, 'z'));
    }

    /** Client 0 has that many edits pending when 60 ops of client 1 come. */
    private static Scene longText(int pending) {
        return new Scene(x -> {
            for (int i = 0; i < pending; i++) {
                x.insert(0, i, '0' + i);
            }
            x.lose(0);
            Check.fill(x, 1, 0, 60);
        });
    }

    /** The longest text that there can be: 60 ops of others, and 8 edits that are pending. */
    private static void longestText() {
        Scene longest = longText(8);
        longest.answers("text", "01234567" + Check.filled(60), x -> Check.text(x, 0));
        longest.refuses("insert into 68", Check.STATE, x -> x.insert(0, 68, 'z'));
        longest.refuses("insert behind 68", Check.INDEX, x -> x.insert(0, 69, 'z'));
        longest.refuses("erase the last of 68", Check.STATE, x -> x.erase(0, 67));
        longest.refuses("erase behind 68", Check.INDEX, x -> x.erase(0, 68));
        longest.refuses("undo at 68", Check.STATE, x -> x.undo(0));
        longText(7).changes("erase the first of 67", 8, x -> x.erase(0, 0));
        longText(7).changes("erase the last of 67", 8, x -> x.erase(0, 66));
        Scene erased = longText(7).then(x -> x.erase(0, 66));
        erased.answers("66 then", "0123456" + Check.filled(59), x -> Check.text(x, 0));
    }

    /** "The first one that applies, in the order in which a method names them, is thrown." */
    private static void insertOrder() {
        Scene both = SIXTY_ONE.then(x -> x.erase(0, 0));
        for (Scene scene : new Scene[] {pending(8), length(60), both}) {
            scene.refuses("all wrong", Check.ARGUMENT, x -> x.insert(3, 99, 31));
            scene.refuses("client and position", Check.ARGUMENT, x -> x.insert(-1, -1, 'a'));
            scene.refuses("character and position", Check.ARGUMENT, x -> x.insert(0, -1, 127));
            scene.refuses("client and full", Check.ARGUMENT, x -> x.insert(3, 0, 'a'));
            scene.refuses("character and full", Check.ARGUMENT, x -> x.insert(0, 0, 31));
            scene.refuses("position and full", Check.INDEX, x -> x.insert(0, 99, 'a'));
            scene.refuses("position -1 and full", Check.INDEX, x -> x.insert(0, -1, 'a'));
        }
    }

    /** erase: "IllegalArgumentException if there is no such client". */
    private static void eraseClients() {
        for (int client : NO_CLIENTS) {
            MIXED.refuses("erase, client " + client, Check.ARGUMENT, x -> x.erase(client, 0));
        }
        Scene one = new Scene(x -> Check.type(x, 0, "a"));
        for (int client = 0; client < 3; client++) {
            int of = client;
            one.changes("erase, client " + of, 1, x -> x.erase(of, 0));
        }
    }

    /** erase: "IndexOutOfBoundsException if there is no character at p". */
    private static void erasePositions() {
        Scene.fresh().refuses("erase at 0 of an empty text", Check.INDEX, x -> x.erase(0, 0));
        for (int p : new int[] {-1, -2, Integer.MIN_VALUE, Integer.MAX_VALUE}) {
            MIXED.refuses("erase at " + p, Check.INDEX, x -> x.erase(0, p));
            Scene.fresh().refuses("erase at " + p + " of none", Check.INDEX, x -> x.erase(0, p));
        }
        Scene abc = new Scene(x -> Check.type(x, 1, "abc"));
        String[] due = {"bc", "ac", "ab"};
        for (int at = 0; at < due.length; at++) {
            int p = at;
            abc.changes("erase at " + p, 1, x -> x.erase(2, p));
            abc.then(x -> x.erase(2, p)).answers("text", due[p], x -> Check.text(x, 2));
        }
        abc.refuses("erase at 3 of 3", Check.INDEX, x -> x.erase(2, 3));
        Scene one = abc.then(x -> {
            x.erase(2, 0);
            x.erase(2, 0);
        });
        one.changes("erase the only one", 3, x -> x.erase(2, 0));
        one.refuses("erase behind the only one", Check.INDEX, x -> x.erase(2, 1));
        one.changes("erase where another still has it", 1, x -> x.erase(0, 2));
        Scene none = one.then(x -> x.erase(2, 0));
        none.refuses("erase when all are gone", Check.INDEX, x -> x.erase(2, 0));
    }

    /** erase: "IllegalStateException if 8 edits are pending". */
    private static void erasePending() {
        pending(6).changes("erase with 6 pending", 7, x -> x.erase(0, 0));
        pending(7).changes("erase with 7 pending", 8, x -> x.erase(0, 0));
        pending(8).refuses("erase with 8 pending", Check.STATE, x -> x.erase(0, 0));
        pending(8).changes("erase of another client", 1, x -> x.erase(1, 0));
        Scene back = pending(8).then(x -> Check.deliver(x, 2));
        back.changes("erase when one is back", 8, x -> x.erase(0, 0));
    }

    /** A full text is no bar to erase: that it is one stands in insert and undo alone. */
    private static void eraseFromFullText() {
        length(60).changes("erase from 60", 8, x -> x.erase(0, 59));
        SIXTY_ONE.changes("erase from 61", 8, x -> x.erase(0, 60));
        SIXTY_ONE.refuses("erase at 61 of 61", Check.INDEX, x -> x.erase(0, 61));
        SIXTY_OF_OTHERS.changes("erase the last of 60", 1, x -> x.erase(0, 59));
        SIXTY_OF_OTHERS.refuses("erase at 60 of 60", Check.INDEX, x -> x.erase(0, 60));
    }

    private static void eraseOrder() {
        pending(8).refuses("client and position", Check.ARGUMENT, x -> x.erase(3, 99));
        pending(8).refuses("client and 8 pending", Check.ARGUMENT, x -> x.erase(-1, 0));
        pending(8).refuses("position and 8 pending", Check.INDEX, x -> x.erase(0, 11));
        pending(8).refuses("position -1 and 8 pending", Check.INDEX, x -> x.erase(0, -1));
        pending(8).refuses("the last and 8 pending", Check.STATE, x -> x.erase(0, 10));
    }

    /** undo: "IllegalArgumentException if there is no such client". */
    private static void undoClients() {
        for (int client : NO_CLIENTS) {
            MIXED.refuses("undo, client " + client, Check.ARGUMENT, x -> x.undo(client));
        }
        for (int client = 0; client < 3; client++) {
            int of = client;
            Scene one = new Scene(x -> Check.type(x, of, "a"));
            one.changes("undo, client " + of, 1, x -> x.undo(of));
        }
    }

    /** undo: "NoSuchElementException if there is no edit to undo". */
    private static void undoWithoutEdits() {
        Scene.fresh().refuses("undo on a new object", Check.ELEMENT, x -> x.undo(0));
        Scene one = new Scene(x -> Check.type(x, 0, "a"));
        one.refuses("undo of others' edits", Check.ELEMENT, x -> x.undo(1));
        one.changes("undo the only edit", 1, x -> x.undo(0));
        Scene undone = one.then(x -> x.undo(0));
        undone.refuses("undo what an UNDO made", Check.ELEMENT, x -> x.undo(0));
        Scene back = undone.then(Check::drain);
        back.refuses("undo it when it is back", Check.ELEMENT, x -> x.undo(0));
        Scene two = new Scene(x -> {
            x.insert(0, 0, 'a');
            x.insert(0, 1, 'b');
        });
        two.then(x -> x.undo(0)).changes("undo the first of two", 1, x -> x.undo(0));
        Scene both = two.then(x -> {
            x.undo(0);
            x.undo(0);
        });
        both.refuses("undo behind the first of two", Check.ELEMENT, x -> x.undo(0));
        both.then(x -> x.insert(0, 0, 'c')).changes("undo a new edit", 1, x -> x.undo(0));
    }

    /** undo: "0 if nothing was to do (the edit is undone all the same)". */
    private static void undoWithNothingToDo() {
        Scene gone = new Scene(x -> {
            Check.type(x, 0, "ab");
            x.erase(1, 1);
            Check.drain(x);
        });
        gone.changes("undo what another erased", 0, x -> x.undo(0));
        Scene undone = gone.then(x -> x.undo(0));
        undone.answers("nothing is pending", 0, x -> x.pending(0));
        undone.answers("nothing is sent", 0, x -> x.waiting());
        undone.answers("nothing is done", "a", x -> Check.text(x, 0));
        undone.changes("it is undone: the one before is next", 1, x -> x.undo(0));
        undone.then(x -> x.undo(0)).refuses("then there is none", Check.ELEMENT, x -> x.undo(0));
        Scene only = new Scene(x -> {
            Check.type(x, 0, "a");
            x.erase(2, 0);
            Check.drain(x);
        });
        only.changes("undo the only edit, which is gone", 0, x -> x.undo(0));
        only.then(x -> x.undo(0)).refuses("it counts as undone", Check.ELEMENT, x -> x.undo(0));
    }

    /** undo: "IllegalStateException if 8 edits are pending". */
    private static void undoPending() {
        pending(6).changes("undo with 6 pending", 1, x -> x.undo(0));
        pending(7).changes("undo with 7 pending", 1, x -> x.undo(0));
        pending(7).then(x -> x.undo(0)).answers("8 then", 8, x -> x.pending(0));
        pending(8).refuses("undo with 8 pending", Check.STATE, x -> x.undo(0));
        pending(8).changes("undo of another client", 1, x -> x.undo(1));
        Scene back = pending(8).then(x -> Check.deliver(x, 2));
        back.changes("undo when one is back", 1, x -> x.undo(0));
        back.then(x -> x.undo(0)).refuses("8 pending again", Check.STATE, x -> x.undo(0));
    }

    /** Also an UNDO that would find nothing to do is refused, and its edit stays to be undone. */
    private static void undoPendingWithNothingToDo() {
        Scene eight = new Scene(x -> {
            Check.type(x, 0, "abcdefghi");
            x.erase(1, 0);
            Check.drain(x);
            for (int i = 0; i < 8; i++) {
                x.undo(0);
            }
        });
        eight.answers("8 pending", 8, x -> x.pending(0));
        eight.refuses("undo with 8 pending", Check.STATE, x -> x.undo(0));
        Scene back = eight.then(x -> {
            Check.answer(() -> x.undo(0));
            Check.deliver(x, 2);
        });
        back.changes("the edit stayed to be undone", 0, x -> x.undo(0));
    }

    /** undo: "or its text has 60 characters or more". */
    private static void undoInFullText() {
        length(59).changes("undo at 59", 1, x -> x.undo(0));
        length(59).then(x -> x.undo(0)).answers("58 then", 58, x -> x.length(0));
        length(60).refuses("undo at 60", Check.STATE, x -> x.undo(0));
        SIXTY_ONE.refuses("undo at 61", Check.STATE, x -> x.undo(0));
        SIXTY_OF_OTHERS.refuses("undo at 60 with none pending", Check.STATE, x -> x.undo(1));
        Scene less = SIXTY_OF_OTHERS.then(x -> x.erase(0, 59));
        less.changes("undo an ERASE at 59", 1, x -> x.undo(0));
        Scene full = less.then(x -> x.undo(0));
        full.answers("60 then", Check.filled(60), x -> Check.text(x, 0));
    }

    private static void undoOrder() {
        pending(8).refuses("client and 8 pending", Check.ARGUMENT, x -> x.undo(3));
        SIXTY_OF_OTHERS.refuses("client and 60", Check.ARGUMENT, x -> x.undo(-1));
        SIXTY_OF_OTHERS.refuses("no edit and 60", Check.ELEMENT, x -> x.undo(0));
        Scene eightByUndo = new Scene(x -> {
            Check.type(x, 0, "abcdefgh");
            for (int i = 0; i < 8; i++) {
                x.undo(0);
            }
        });
        eightByUndo.answers("8 pending", 8, x -> x.pending(0));
        eightByUndo.refuses("no edit and 8 pending", Check.ELEMENT, x -> x.undo(0));
    }

    public static void main(String[] args) {
        newObject();
        objectsAreApart();
        insertClients();
        insertCharacters();
        insertPositions();
        insertPositionsAreOfItsText();
        insertPending();
        insertIntoFullText();
        longestText();
        insertOrder();
        eraseClients();
        erasePositions();
        erasePending();
        eraseFromFullText();
        eraseOrder();
        undoClients();
        undoWithoutEdits();
        undoWithNothingToDo();
        undoPending();
        undoPendingWithNothingToDo();
        undoInFullText();
        undoOrder();
        Check.finish();
    }
}
