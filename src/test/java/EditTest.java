import java.util.NoSuchElementException;

/** Promises 1 to 4: a new object, insert, erase, undo. */
public final class EditTest {
    private static final Class<IllegalArgumentException> ARGUMENT = IllegalArgumentException.class;
    private static final Class<IndexOutOfBoundsException> INDEX = IndexOutOfBoundsException.class;
    private static final Class<IllegalStateException> STATE = IllegalStateException.class;
    private static final Class<NoSuchElementException> ELEMENT = NoSuchElementException.class;

    /** A text of 60 characters in which client 0 has nothing pending. */
    private static JointText withFullText() {
        JointText x = new JointText();
        for (int i = 0; i < 60; i++) {
            Check.type(x, i % 3, "x");
        }
        return x;
    }

    private static void newObject() {
        JointText x = new JointText();
        Check.texts("new", x, "");
        Check.same("new: waiting", x.waiting(), 0);
        for (int side = 0; side <= Check.SERVER; side++) {
            Check.same("new: revision", x.revision(side), 0);
            Check.same("new: pending", x.pending(side), side < 3 ? 0 : -1);
        }
        Check.same("new: the server is up", x.restart(), false);
        Check.same("new: client is on", x.connect(1, true), false);
    }

    private static void insertAnswersAndSends() {
        JointText x = new JointText();
        Check.same("first insert", x.insert(1, 0, 'b'), 1);
        Check.same("the EDIT", Check.message(x, 0), "0 1 0 0 1");
        Check.same("second insert", x.insert(1, 0, 'a'), 2);
        Check.same("insert at the end", x.insert(1, 2, 'c'), 3);
        Check.same("only the first is sent", x.waiting(), 1);
        Check.same("text", Check.text(x, 1), "abc");
        Check.same("others know nothing", Check.text(x, 0) + Check.text(x, 2) + Check.text(x, 3), "");
        Check.same("smallest character", x.insert(0, 0, 32), 1);
        Check.same("largest character", x.insert(2, 0, 126), 1);
    }

    private static void insertRefuses() {
        JointText x = new JointText();
        Check.type(x, 0, "a");
        String before = Check.all(x);
        Check.fails("no client 3", ARGUMENT, () -> x.insert(3, 0, 'a'));
        Check.fails("no client -1", ARGUMENT, () -> x.insert(-1, 0, 'a'));
        Check.fails("character 31", ARGUMENT, () -> x.insert(0, 0, 31));
        Check.fails("character 127", ARGUMENT, () -> x.insert(0, 0, 127));
        Check.fails("character before position", ARGUMENT, () -> x.insert(0, 9, 127));
        Check.fails("p -1", INDEX, () -> x.insert(0, -1, 'a'));
        Check.fails("p behind the end", INDEX, () -> x.insert(0, 2, 'a'));
        Check.fails("p far off", INDEX, () -> x.insert(0, Integer.MAX_VALUE, 'a'));
        Check.same("refused inserts leave all", Check.all(x), before);
        for (int i = 1; i <= 8; i++) {
            Check.same("insert " + i, x.insert(0, i, 'b'), i);
        }
        String full = Check.all(x);
        Check.fails("8 pending", STATE, () -> x.insert(0, 0, 'c'));
        Check.fails("position before 8 pending", INDEX, () -> x.insert(0, 10, 'c'));
        Check.same("8 pending leave all", Check.all(x), full);
    }

    private static void insertIntoFullText() {
        JointText x = withFullText();
        Check.same("60 characters", x.length(0), 60);
        Check.fails("insert into 60", STATE, () -> x.insert(0, 0, 'c'));
        Check.fails("position before full", INDEX, () -> x.insert(0, 61, 'c'));
        Check.same("erase from 60", x.erase(0, 59), 1);
        Check.same("insert into 59", x.insert(0, 59, 'c'), 2);
        Check.fails("insert into 60 again", STATE, () -> x.insert(0, 60, 'c'));
    }

    /** Others' edits may bring a text over 60. */
    private static void textBeyondSixty() {
        JointText x = new JointText();
        Check.type(x, 1, "x".repeat(55));
        for (int i = 0; i < 5; i++) {
            x.insert(0, 0, 'a');
        }
        Check.loseAll(x);
        Check.type(x, 1, "y".repeat(5));
        Check.same("history is full", x.revision(Check.SERVER), 60);
        Check.same("server has 60", x.length(Check.SERVER), 60);
        Check.same("client has 65", Check.text(x, 0), "aaaaa" + "x".repeat(55) + "y".repeat(5));
        Check.fails("insert into 65", STATE, () -> x.insert(0, 0, 'c'));
        Check.fails("undo at 65", STATE, () -> x.undo(0));
        Check.same("erase at 65", x.erase(0, 64), 6);
        Check.same("no room: still pending", x.pending(0), 6);
        x.tick();
        Check.drain(x);
        Check.same("no room: nothing comes back", x.pending(0), 6);
    }

    private static void eraseAnswersAndSends() {
        JointText x = new JointText();
        Check.type(x, 0, "abcd");
        Check.same("erase in the middle", x.erase(2, 1), 1);
        Check.same("the EDIT", Check.message(x, 0), "0 2 4 0 1");
        Check.same("erase the first", x.erase(2, 0), 2);
        Check.same("erase the last", x.erase(2, 1), 3);
        Check.same("text", Check.text(x, 2), "c");
        Check.drain(x);
        Check.texts("after erases", x, "c");
    }

    private static void eraseRefuses() {
        JointText x = new JointText();
        Check.fails("nothing to erase", INDEX, () -> x.erase(0, 0));
        Check.type(x, 0, "abcdefghi");
        String before = Check.all(x);
        Check.fails("no client 3", ARGUMENT, () -> x.erase(3, 0));
        Check.fails("no client -1", ARGUMENT, () -> x.erase(-1, 99));
        Check.fails("p -1", INDEX, () -> x.erase(0, -1));
        Check.fails("p behind the last", INDEX, () -> x.erase(0, 9));
        Check.same("refused erases leave all", Check.all(x), before);
        for (int i = 1; i <= 8; i++) {
            Check.same("erase " + i, x.erase(1, 0), i);
        }
        String full = Check.all(x);
        Check.fails("8 pending", STATE, () -> x.erase(1, 0));
        Check.fails("position before 8 pending", INDEX, () -> x.erase(1, 1));
        Check.same("8 pending leave all", Check.all(x), full);
    }

    private static void undoTakesBackLatestFirst() {
        JointText x = new JointText();
        Check.type(x, 0, "ab");
        x.erase(0, 0);
        Check.drain(x);
        Check.same("undo the erase", x.undo(0), 1);
        Check.same("its EDIT", Check.message(x, 0), "0 0 3 3 1");
        Check.drain(x);
        Check.texts("erase undone", x, "ab");
        Check.same("op of that undo", Check.op(x, 3), "1 0 97 0 3");
        Check.same("undo the b", x.undo(0), 1);
        Check.drain(x);
        Check.texts("b undone", x, "a");
        // The undone erase stands behind the a in the log, so nothing is left to take back.
        Check.same("undo the a, which was erased", x.undo(0), 0);
        Check.same("nothing was sent", x.waiting(), 0);
        Check.fails("an UNDO is not undone", ELEMENT, () -> x.undo(0));
        Check.texts("left", x, "a");
    }

    private static void undoMovesOverOthers() {
        JointText x = new JointText();
        Check.type(x, 1, "m");
        x.insert(0, 0, 'a');
        x.insert(0, 0, 'b');
        Check.drain(x);
        x.erase(2, 0);
        Check.drain(x);
        Check.texts("b erased by 2", x, "am");
        Check.same("b is gone already", x.undo(0), 0);
        Check.same("undo the a", x.undo(0), 1);
        Check.same("undo of 1 takes only its own", x.undo(1), 1);
        Check.drain(x);
        Check.texts("a and m undone", x, "");
        Check.same("undo of 2", x.undo(2), 1);
        Check.drain(x);
        Check.texts("b is back", x, "b");
    }

    /** The erased character comes back where others' edits moved its place to. */
    private static void undoOfEraseMoves() {
        JointText x = new JointText();
        Check.type(x, 0, "abc");
        x.erase(1, 1);
        x.insert(2, 0, 'x');
        Check.drain(x);
        Check.same("undo at 1", x.undo(1), 1);
        Check.same("text of 1", Check.text(x, 1), "xabc");
        Check.drain(x);
        Check.texts("b is back behind xa", x, "xabc");
    }

    private static void undoTiesWithOwnInsert() {
        JointText x = new JointText();
        Check.type(x, 0, "a");
        x.erase(0, 0);
        x.insert(0, 0, 'b');
        Check.same("undo the b", x.undo(0), 1);
        Check.same("undo the erase", x.undo(0), 1);
        Check.same("a is back", Check.text(x, 0), "a");
        JointText y = new JointText();
        Check.type(y, 1, "a");
        y.erase(1, 0);
        Check.drain(y);
        Check.type(y, 2, "z");
        Check.same("undo with the lower site", y.undo(1), 1);
        Check.same("stays before the z", Check.text(y, 1), "az");
        JointText z = new JointText();
        Check.type(z, 1, "a");
        z.erase(1, 0);
        Check.drain(z);
        Check.type(z, 0, "z");
        Check.same("undo with the higher site", z.undo(1), 1);
        Check.same("goes behind the z", Check.text(z, 1), "za");
    }

    /** Over an own INSERT at its place the op moves on, as the site is not less. */
    private static void undoMovesBehindOwnInsert() {
        JointText x = new JointText();
        Check.type(x, 1, "a");
        x.erase(1, 0);
        x.insert(1, 0, 'b');
        Check.drain(x);
        x.insert(0, 1, 'z');
        Check.drain(x);
        Check.texts("before", x, "bz");
        Check.same("undo the b", x.undo(1), 1);
        Check.same("undo the erase", x.undo(1), 1);
        Check.drain(x);
        Check.texts("behind b it came behind z, too", x, "za");
    }

    private static void undoRefuses() {
        JointText x = new JointText();
        Check.fails("no client 3", ARGUMENT, () -> x.undo(3));
        Check.fails("no client -1", ARGUMENT, () -> x.undo(-1));
        Check.fails("nothing to undo", ELEMENT, () -> x.undo(0));
        Check.type(x, 1, "a");
        Check.fails("others' edits are not undone", ELEMENT, () -> x.undo(0));
        for (int i = 0; i < 8; i++) {
            x.insert(0, 0, 'b');
        }
        String before = Check.all(x);
        Check.fails("8 pending", STATE, () -> x.undo(0));
        Check.same("refused undo leaves all", Check.all(x), before);
        Check.drain(x);
        for (int i = 0; i < 8; i++) {
            Check.same("the refused undo undid nothing", x.undo(0), 1);
        }
        Check.fails("nothing left before 8 pending", ELEMENT, () -> x.undo(0));
        Check.same("pending", x.pending(0), 8);
    }

    private static void undoInFullText() {
        JointText x = withFullText();
        Check.fails("undo at 60", STATE, () -> x.undo(0));
        x.erase(0, 59);
        Check.same("undo of the erase at 59", x.undo(0), 1);
        Check.fails("undo at 60 again", STATE, () -> x.undo(0));
    }

    private static void undoWhileOff() {
        JointText x = new JointText();
        x.connect(0, false);
        x.insert(0, 0, 'a');
        Check.same("undo while off", x.undo(0), 1);
        Check.same("nothing sent", x.waiting(), 0);
        Check.same("both pending", x.pending(0), 2);
        x.connect(0, true);
        Check.drain(x);
        Check.same("both in the history", Check.op(x, 0) + ", " + Check.op(x, 1),
                "1 0 97 0 0, 2 0 0 0 1");
        Check.texts("undone everywhere", x, "");
    }

    public static void main(String[] args) {
        newObject();
        insertAnswersAndSends();
        insertRefuses();
        insertIntoFullText();
        textBeyondSixty();
        eraseAnswersAndSends();
        eraseRefuses();
        undoTakesBackLatestFirst();
        undoMovesOverOthers();
        undoOfEraseMoves();
        undoTiesWithOwnInsert();
        undoMovesBehindOwnInsert();
        undoRefuses();
        undoInFullText();
        undoWhileOff();
        Check.finish();
    }
}
