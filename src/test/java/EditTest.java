/** Promises 1 to 4: a new object, insert, erase, undo. */
public final class EditTest {
    private static void insertAnswersAndSends() {
        CountedText x = new CountedText();
        Check.same("first insert", x.insert(1, 0, 'b'), 1);
        Check.same("the EDIT", Check.message(x, 0), "0 1 0 0 1");
        Check.same("second insert", x.insert(1, 0, 'a'), 2);
        Check.same("insert at the end", x.insert(1, 2, 'c'), 3);
        Check.same("only the first is sent", x.waiting(), 1);
        Check.same("text", Check.text(x, 1), "abc");
        Check.same("others know nothing", Check.text(x, 0) + Check.text(x, 2) + Check.text(x, 3), "");
        Check.same("smallest character", x.insert(0, 0, 32), 1);
        Check.same("largest character", x.insert(2, 0, 126), 1);
    }

    /** Others' edits may bring a text over 60. */
    private static void textBeyondSixty() {
        CountedText x = new CountedText();
        Check.type(x, 1, "x".repeat(55));
        for (int i = 0; i < 5; i++) {
            x.insert(0, 0, 'a');
        }
        Check.loseAll(x);
        Check.type(x, 1, "y".repeat(5));
        Check.same("history is full", x.revision(Check.SERVER), 60);
        Check.same("server has 60", x.length(Check.SERVER), 60);
        Check.same("client has 65", Check.text(x, 0), "aaaaa" + "x".repeat(55) + "y".repeat(5));
        Check.fails("insert into 65", Check.STATE, () -> x.insert(0, 0, 'c'));
        Check.fails("undo at 65", Check.STATE, () -> x.undo(0));
        Check.same("erase at 65", x.erase(0, 64), 6);
        Check.same("no room: still pending", x.pending(0), 6);
        x.tick();
        Check.drain(x);
        Check.same("no room: nothing comes back", x.pending(0), 6);
    }

    private static void eraseAnswersAndSends() {
        CountedText x = new CountedText();
        Check.type(x, 0, "abcd");
        Check.same("erase in the middle", x.erase(2, 1), 1);
        Check.same("the EDIT", Check.message(x, 0), "0 2 4 0 1");
        Check.same("erase the first", x.erase(2, 0), 2);
        Check.same("erase the last", x.erase(2, 1), 3);
        Check.same("text", Check.text(x, 2), "c");
        Check.drain(x);
        Check.texts("after erases", x, "c");
    }

    private static void undoTakesBackLatestFirst() {
        CountedText x = new CountedText();
        Check.type(x, 0, "ab");
        x.erase(0, 0);
        Check.drain(x);
        Check.same("undo the erase", x.undo(0), 1);
        Check.same("its EDIT", Check.message(x, 0), "0 0 3 3 1");
        Check.drain(x);
        Check.texts("erase undone", x, "ab");
        Check.same("op of that undo", Check.op(x, 3), "1 0 97 0 3");
        Check.same("undo the b", x.undo(0), 1);
        Check.drain(x);
        Check.texts("b undone", x, "a");
        // The undone erase stands behind the a in the log, so nothing is left to take back.
        Check.same("undo the a, which was erased", x.undo(0), 0);
        Check.same("nothing was sent", x.waiting(), 0);
        Check.fails("an UNDO is not undone", Check.ELEMENT, () -> x.undo(0));
        Check.texts("left", x, "a");
    }

    private static void undoMovesOverOthers() {
        CountedText x = new CountedText();
        Check.type(x, 1, "m");
        x.insert(0, 0, 'a');
        x.insert(0, 0, 'b');
        Check.drain(x);
        x.erase(2, 0);
        Check.drain(x);
        Check.texts("b erased by 2", x, "am");
        Check.same("b is gone already", x.undo(0), 0);
        Check.same("undo the a", x.undo(0), 1);
        Check.same("undo of 1 takes only its own", x.undo(1), 1);
        Check.drain(x);
        Check.texts("a and m undone", x, "");
        Check.same("undo of 2", x.undo(2), 1);
        Check.drain(x);
        Check.texts("b is back", x, "b");
    }

    /** The erased character comes back where others' edits moved its place to. */
    private static void undoOfEraseMoves() {
        CountedText x = new CountedText();
        Check.type(x, 0, "abc");
        x.erase(1, 1);
        x.insert(2, 0, 'x');
        Check.drain(x);
        Check.same("undo at 1", x.undo(1), 1);
        Check.same("text of 1", Check.text(x, 1), "xabc");
        Check.drain(x);
        Check.texts("b is back behind xa", x, "xabc");
    }

    private static void undoTiesWithOwnInsert() {
        CountedText x = new CountedText();
        Check.type(x, 0, "a");
        x.erase(0, 0);
        x.insert(0, 0, 'b');
        Check.same("undo the b", x.undo(0), 1);
        Check.same("undo the erase", x.undo(0), 1);
        Check.same("a is back", Check.text(x, 0), "a");
        CountedText y = new CountedText();
        Check.type(y, 1, "a");
        y.erase(1, 0);
        Check.drain(y);
        Check.type(y, 2, "z");
        Check.same("undo with the lower site", y.undo(1), 1);
        Check.same("stays before the z", Check.text(y, 1), "az");
        CountedText z = new CountedText();
        Check.type(z, 1, "a");
        z.erase(1, 0);
        Check.drain(z);
        Check.type(z, 0, "z");
        Check.same("undo with the higher site", z.undo(1), 1);
        Check.same("goes behind the z", Check.text(z, 1), "za");
    }

    /** Over an own INSERT at its place the op moves on, as the site is not less. */
    private static void undoMovesBehindOwnInsert() {
        CountedText x = new CountedText();
        Check.type(x, 1, "a");
        x.erase(1, 0);
        x.insert(1, 0, 'b');
        Check.drain(x);
        x.insert(0, 1, 'z');
        Check.drain(x);
        Check.texts("before", x, "bz");
        Check.same("undo the b", x.undo(1), 1);
        Check.same("undo the erase", x.undo(1), 1);
        Check.drain(x);
        Check.texts("behind b it came behind z, too", x, "za");
    }

    private static void undoWhileOff() {
        CountedText x = new CountedText();
        x.connect(0, false);
        x.insert(0, 0, 'a');
        Check.same("undo while off", x.undo(0), 1);
        Check.same("nothing sent", x.waiting(), 0);
        Check.same("both pending", x.pending(0), 2);
        x.connect(0, true);
        Check.drain(x);
        Check.same("both in the history", Check.op(x, 0) + ", " + Check.op(x, 1),
                "1 0 97 0 0, 2 0 0 0 1");
        Check.texts("undone everywhere", x, "");
    }

    public static void main(String[] args) {
        insertAnswersAndSends();
        textBeyondSixty();
        eraseAnswersAndSends();
        undoTakesBackLatestFirst();
        undoMovesOverOthers();
        undoOfEraseMoves();
        undoTiesWithOwnInsert();
        undoMovesBehindOwnInsert();
        undoWhileOff();
        Check.finish();
    }
}
