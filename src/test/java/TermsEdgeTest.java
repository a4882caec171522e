/** The document's terms where they end: for each sentence that names a boundary, a test of its own. */
public final class TermsEdgeTest {
    private static final int INSERT = 1;
    private static final int ERASE = 2;

    private static void edit(CountedText x, int client, int kind, int p) {
        if (kind == INSERT) {
            x.insert(client, p, 'A' + client);
        } else {
            x.erase(client, p);
        }
    }

    /** "An object is used for at most 512 calls": so the 512th still answers as it should. */
    private static void objectOf512Calls() {
        CountedText looked = new CountedText();
        while (looked.callsLeft() > 1) {
            looked.waiting();
        }
        Check.same("insert as call 512", looked.insert(0, 0, 'a'), 1);

        CountedText sent = new CountedText();
        while (sent.callsLeft() > 1) {
            sent.tick();
        }
        Check.same("waiting as call 512", sent.waiting(), 30);

        CountedText switched = new CountedText();
        while (switched.callsLeft() > 2) {
            switched.connect(0, switched.callsLeft() % 2 == 1);
        }
        Check.same("connect as call 511", switched.connect(0, false), true);
        Check.same("connect as call 512", switched.connect(0, true), true);

        CountedText restarted = new CountedText();
        Check.type(restarted, 0, "abc");
        while (restarted.callsLeft() > 2) {
            restarted.crash();
            restarted.restart();
        }
        Check.same("calls left", restarted.callsLeft(), 1);
        Check.same("length as call 512", restarted.length(3), 3);
    }

    /** As much as an object can hold, and then all the calls that are left. */
    private static void fullObjectOf512Calls() {
        CountedText x = new CountedText();
        Check.fill(x, 0, 0, 52);
        for (int client = 0; client < 3; client++) {
            for (int i = 0; i < 8; i++) {
                x.insert(client, 0, 'z');
            }
        }
        Check.drain(x);
        Check.same("history", x.revision(3), 60);
        while (x.callsLeft() > 1) {
            x.tick();
        }
        Check.same("waiting as call 512", x.waiting(), 30);
    }

    /**
     * MOVE, its rows: what a does, how far its position is from that of b, what b does; then the
     * kind and how far the position is from that of b afterwards. The sites come in where both
     * INSERT at one position: 9 stands for 0 if the site of a is less, else for 1.
     */
    private static final int[][] MOVES = {
        {INSERT, -1, INSERT, INSERT, -1}, {INSERT, 0, INSERT, INSERT, 9},
        {INSERT, 1, INSERT, INSERT, 2},
        {ERASE, -1, INSERT, ERASE, -1}, {ERASE, 0, INSERT, ERASE, 1}, {ERASE, 1, INSERT, ERASE, 2},
        {INSERT, -1, ERASE, INSERT, -1}, {INSERT, 0, ERASE, INSERT, 0}, {INSERT, 1, ERASE, INSERT, 0},
        {ERASE, -1, ERASE, ERASE, -1}, {ERASE, 0, ERASE, 0, -2}, {ERASE, 1, ERASE, ERASE, 0}
    };
    private static final int AT = 2;

    private static String moved(int[] row, int a, int b) {
        int off = row[4] == 9 ? (a < b ? 0 : 1) : row[4];
        int character = row[3] == INSERT ? 'A' + a : 0;
        return row[3] + " " + (AT + off) + " " + character + " " + a + " 0";
    }

    /** Client a makes its edit for the same text as client b, and that of b is first in the order. */
    private static Scene both(int[] row, int a, int b) {
        return new Scene(x -> {
            Check.type(x, 3 - a - b, "mnopq");
            edit(x, b, row[2], AT);
            edit(x, a, row[0], AT + row[1]);
        });
    }

    private static void eachMove(Mover mover) {
        for (int[] row : MOVES) {
            for (int a = 0; a < 3; a++) {
                for (int b = 0; b < 3; b++) {
                    if (a != b) {
                        mover.check(row, a, b);
                    }
                }
            }
        }
    }

    private interface Mover {
        void check(int[] row, int a, int b);
    }

    private static String named(int[] row, int a, int b) {
        return row[0] + " of " + a + " at " + (AT + row[1]) + " over " + row[2] + " of " + b;
    }

    /** "the op is moved over the ops of the history from that revision on". */
    private static void movedByServer(int[] row, int a, int b) {
        CountedText x = both(row, a, b).play();
        x.deliver(0);
        x.deliver(0);
        Check.same(named(row, a, b), Check.op(x, 6), moved(row, a, b));
        Check.drain(x);
        Check.texts(named(row, a, b), x, Check.text(x, 3));
    }

    /** "that edit (as it is) is moved over the op as it came to that edit". */
    private static void movedByClient(int[] row, int a, int b) {
        CountedText x = both(row, a, b).play();
        x.lose(1);
        Check.drain(x);
        x.tick();
        x.deliver(a);
        Check.same("client: " + named(row, a, b), Check.op(x, 6), moved(row, a, b));
        Check.drain(x);
        Check.texts("client: " + named(row, a, b), x, Check.text(x, 3));
    }

    /** "a stays as it is if it or b does nothing": here b, which has the position 0. */
    private static void moveOverNothing() {
        String[] inserts = {"1 0", "1 1", "1 2", "1 3", "1 3"};
        String[] erases = {"2 0", "2 1", "2 2", "0 0"};
        for (int kind = INSERT; kind <= ERASE; kind++) {
            String[] due = kind == INSERT ? inserts : erases;
            for (int p = 0; p < due.length; p++) {
                CountedText x = new CountedText();
                Check.type(x, 2, "mnop");
                x.erase(0, 3);
                x.erase(1, 3);
                edit(x, 2, kind, p);
                Check.deliver(x, 3);
                Check.same("b", Check.op(x, 5), "0 0 0 1 0");
                Check.same("a", x.op(6, 0) + " " + x.op(6, 1), due[p]);
                Check.drain(x);
                Check.texts("over nothing", x, Check.text(x, 3));
            }
        }
    }

    /** "a stays as it is if it or b does nothing": here a, at its client and at the server. */
    private static void moveOfNothing() {
        for (int kind = INSERT; kind <= ERASE; kind++) {
            CountedText x = new CountedText();
            Check.type(x, 0, "mnop");
            x.erase(1, 2);
            x.lose(0);
            x.erase(0, 2);
            Check.drain(x);
            edit(x, 0, kind, 0);
            Check.drain(x);
            edit(x, 2, kind, 0);
            x.connect(1, false);
            x.connect(1, true);
            x.deliver(0);
            x.deliver(0);
            Check.same("a", Check.op(x, 7), "0 0 0 1 0");
            Check.drain(x);
            Check.texts("of nothing", x, Check.text(x, 3));
        }
    }

    /** The same in an UNDO: what stands in the log and does nothing moves nothing. */
    private static void undoOverNothing() {
        CountedText x = new CountedText();
        Check.type(x, 2, "mn");
        x.insert(0, 0, 'a');
        Check.drain(x);
        x.erase(1, 2);
        x.erase(2, 2);
        Check.drain(x);
        Check.same("nothing", Check.op(x, 4), "0 0 0 2 2");
        Check.same("undo", x.undo(0), 1);
        Check.drain(x);
        Check.texts("undone", x, "m");
    }

    /** "stays if its site is less than that of b": it is not less where both are of one client. */
    private static void moveOverOwnInsert() {
        CountedText x = new CountedText();
        Check.type(x, 1, "a");
        x.erase(1, 0);
        x.insert(1, 0, 'b');
        Check.drain(x);
        x.insert(0, 1, 'z');
        Check.drain(x);
        x.undo(1);
        Check.drain(x);
        Check.same("undo the ERASE", x.undo(1), 1);
        Check.drain(x);
        // Behind the b it came, so the z, whose site is less, is before it, too.
        Check.same("its op", Check.op(x, 5), "1 1 97 1 4");
        Check.texts("undone", x, "za");
    }

    /** "its first pending edit as it is then": what moves that later leaves the EDIT as it was. */
    private static void editAsItWas() {
        CountedText x = new CountedText();
        Check.type(x, 2, "mn");
        x.insert(1, 1, 'b');
        x.insert(0, 0, 'a');
        x.deliver(1);
        x.deliver(2);
        Check.same("client 1 has both", x.revision(1) + Check.text(x, 1), "3ambn");
        Check.same("its EDIT", Check.message(x, 0), "0 1 2 0 1");
        x.deliver(0);
        Check.same("moved once", Check.op(x, 3), "1 2 98 1 0");
        Check.drain(x);
        Check.texts("all", x, "ambn");
    }

    /** "from that revision on": over none, one or two ops. */
    private static void movedFromItsRevision() {
        for (int unknown = 0; unknown <= 2; unknown++) {
            CountedText x = new CountedText();
            Check.type(x, 0, "ab");
            for (int i = 0; i < 2; i++) {
                if (i == 2 - unknown) {
                    x.connect(1, false);
                }
                x.insert(0, 0, 'c');
                Check.drain(x);
            }
            x.insert(1, 1, 'z');
            x.connect(1, true);
            Check.same("its revision", x.message(0, 2), 4 - unknown);
            x.deliver(0);
            Check.same("moved over " + unknown, Check.op(x, 4), "1 " + (1 + unknown) + " 122 1 0");
        }
    }

    /** 59 ops are in the history, and the EDIT that makes the 60th waits. */
    private static final Scene LAST_EDIT_WAITS = new Scene(x -> {
        Check.fill(x, 0, 0, 59);
        x.insert(1, 59, 'z');
    });

    /** The history is full, all know it, and an EDIT that would be next waits. */
    private static final Scene NO_ROOM = LAST_EDIT_WAITS.then(x -> {
        Check.deliver(x, 4);
        x.erase(2, 0);
    });

    /** "a HISTORY of at most 60 ops" and "there is room ... Otherwise nothing". */
    private static void historyOfSixty() {
        Scene before = new Scene(x -> {
            Check.fill(x, 0, 0, 58);
            x.insert(1, 58, 'z');
        });
        before.then(x -> x.deliver(0)).answers("the 59th", 59, x -> x.revision(3));
        LAST_EDIT_WAITS.changes("an EDIT with room for one", 0, x -> x.deliver(0));
        Scene sixty = LAST_EDIT_WAITS.then(x -> x.deliver(0));
        sixty.answers("the 60th", 60, x -> x.revision(3));
        sixty.answers("in the text", 60, x -> x.length(3));
        sixty.answers("NEWS of it", "<2 0 59 0 1><2 1 59 0 1><2 2 59 0 1>", Check::messages);
        NO_ROOM.changes("an EDIT without room", 0, x -> x.deliver(0));
        Scene after = NO_ROOM.then(x -> x.deliver(0));
        after.isAs("without room nothing", NO_ROOM.then(x -> x.lose(0)));
        after.answers("60 still", 60, x -> x.revision(3));
        after.answers("text as it was", 60, x -> x.length(3));
        after.answers("pending still", 1, x -> x.pending(2));
        Scene restarted = NO_ROOM.then(x -> {
            x.crash();
            x.restart();
        });
        restarted.then(x -> x.deliver(0)).isAs("nor after a restart", after);
    }

    /** "If the number is less, it is as an ASK", with or without room. */
    private static void oldEdits() {
        Scene twice = LAST_EDIT_WAITS.then(x -> {
            x.repeat(0);
            x.deliver(0);
        });
        twice.answers("an old EDIT without room", 0, x -> x.deliver(0));
        Scene old = twice.then(x -> x.deliver(0));
        old.answers("the NEWS it asks for", "2 1 59 0 1", x -> Check.message(x, 3));
        old.answers("60 still", 60, x -> x.revision(3));
        Scene one = new Scene(x -> {
            Check.type(x, 1, "a");
            x.insert(0, 0, 'b');
            x.repeat(0);
            x.deliver(0);
            x.insert(2, 0, 'c');
            x.deliver(4);
            Check.loseAllBut(x, 0);
            x.deliver(0);
        });
        one.answers("all from its revision on, to it", "<2 0 1 0 1><2 0 2 0 1>", Check::messages);
        one.answers("done once", 3, x -> x.length(3));
    }

    /** "NEWS of all ops from that revision on": none, one, all, or as many as have room. */
    private static void asks() {
        Scene four = new Scene(x -> Check.type(x, 0, "abcd"));
        Scene none = four.then(x -> x.tick());
        none.then(x -> x.deliver(1)).isAs("nothing to tell", none.then(x -> x.lose(1)));
        for (int known = 0; known <= 4; known++) {
            int revision = known;
            Scene behind = new Scene(x -> {
                Check.type(x, 0, "abcd".substring(0, revision));
                x.connect(2, false);
                Check.type(x, 0, "abcd".substring(revision));
                x.connect(2, true);
            });
            behind.answers("the ASK", 1, x -> x.deliver(0));
            StringBuilder due = new StringBuilder();
            for (int place = revision; place < 4; place++) {
                due.append("<2 2 " + place + " " + place + " 1>");
            }
            behind.then(x -> x.deliver(0)).answers("NEWS", due.toString(), Check::messages);
        }
    }

    /** "if the place is not its revision, nothing": one less, the same, one more. */
    private static void newsPlaces() {
        Scene news = new Scene(x -> {
            Check.type(x, 0, "ab");
            x.connect(1, false);
            Check.type(x, 0, "cde");
            x.connect(1, true);
            x.deliver(0);
            x.repeat(0);
            x.deliver(0);
        });
        news.answers("client 1 knows", 3, x -> x.revision(1));
        news.answers("NEWS", "<2 1 3 3 1><2 1 4 4 1><2 1 2 2 1>", Check::messages);
        news.changes("of its revision", 2, x -> x.deliver(0));
        Scene taken = news.then(x -> x.deliver(0));
        taken.answers("taken", "abcd", x -> Check.text(x, 1));
        taken.answers("knows one more", 4, x -> x.revision(1));
        news.changes("of one more", 2, x -> x.deliver(1));
        news.then(x -> x.deliver(1)).isAs("of one more: nothing", news.then(x -> x.lose(1)));
        news.changes("of one less", 2, x -> x.deliver(2));
        news.then(x -> x.deliver(2)).isAs("of one less: nothing", news.then(x -> x.lose(2)));
    }

    /** NEWS of an own edit, a second time, is not that of the next one. */
    private static void ownNewsTwice() {
        Scene twice = new Scene(x -> {
            x.insert(0, 0, 'a');
            x.insert(0, 1, 'b');
            x.deliver(0);
            x.repeat(0);
            x.deliver(0);
        });
        twice.answers("one pending", 1, x -> x.pending(0));
        twice.then(x -> x.deliver(2)).isAs("again: nothing", twice.then(x -> x.lose(2)));
    }

    /** "PENDING edits, at most 8", with their numbers: "the next one with 1 more". */
    private static void numbers() {
        CountedText x = new CountedText();
        Check.type(x, 1, "ab");
        for (int i = 0; i < 8; i++) {
            x.insert(1, i, 'c' + i);
        }
        Check.same("8 pending", x.pending(1), 8);
        for (int number = 2; number < 10; number++) {
            Check.same("EDIT " + number, Check.message(x, 0), "0 1 " + number + " " + number + " 1");
            Check.deliver(x, 4);
            int character = 'a' + number;
            Check.same("op " + number, Check.op(x, number),
                    "1 " + (number - 2) + " " + character + " 1 " + number);
        }
        Check.same("all are back", x.pending(1) + " " + x.waiting(), "0 0");
        x.insert(1, 0, 'z');
        Check.same("the next one", Check.message(x, 0), "0 1 10 10 1");
    }

    /** "if it is the only one, it is sent". */
    private static void onlyOneIsSent() {
        Scene.fresh().then(x -> x.insert(0, 0, 'a')).answers("the first", 1, x -> x.waiting());
        Scene second = new Scene(x -> {
            x.insert(0, 0, 'a');
            x.insert(0, 1, 'b');
        });
        second.answers("the second is not sent", 1, x -> x.waiting());
        second.then(x -> x.erase(0, 0)).answers("nor is an ERASE", 1, x -> x.waiting());
        second.then(x -> x.undo(0)).answers("nor is an UNDO", 1, x -> x.waiting());
        second.then(x -> x.insert(1, 0, 'c')).answers("another client's is", 2, x -> x.waiting());
        Scene one = new Scene(x -> Check.type(x, 0, "ab"));
        one.then(x -> x.erase(0, 0)).answers("an ERASE", "<0 0 2 2 1>", Check::messages);
        one.then(x -> x.undo(0)).answers("an UNDO", "<0 0 2 2 1>", Check::messages);
    }

    /** "the next one, if there is one, is sent". */
    private static void nextIsSent() {
        for (int count = 1; count <= 3; count++) {
            int pending = count;
            Scene back = new Scene(x -> {
                for (int i = 0; i < pending; i++) {
                    x.insert(0, i, 'a' + i);
                }
                x.deliver(0);
                x.deliver(0);
            });
            back.answers("pending", pending - 1, x -> x.pending(0));
            String due = pending == 1 ? "" : "<0 0 1 1 1>";
            back.answers("sent", "<2 1 0 0 1><2 2 0 0 1>" + due, Check::messages);
        }
    }

    /** That many ASKs wait, behind a text of two characters of client 1. */
    private static Scene waiting(int count) {
        return new Scene(x -> {
            Check.type(x, 1, "ab");
            for (int sent = 0; sent < count; sent += 3) {
                x.tick();
            }
            while (x.lose(count)) {
                continue;
            }
        });
    }

    /** "one that is sent comes last, or is lost if 30 wait": an EDIT. */
    private static void editWhenFull() {
        Scene.Call[] edits = {x -> x.insert(1, 0, 'z'), x -> x.erase(1, 0), x -> x.undo(1)};
        String[] texts = {"zab", "b", "a"};
        for (int i = 0; i < edits.length; i++) {
            Scene.Call edit = edits[i];
            for (int count = 28; count <= 30; count++) {
                int before = count;
                waiting(before).changes("edit at " + before, 1, edit);
                Scene made = waiting(before).then(edit::on);
                made.answers("waiting", Math.min(before + 1, 30), x -> x.waiting());
                made.answers("last", before == 30 ? 1 : 0, x -> x.message(Math.min(before, 29), 0));
                made.answers("made all the same", texts[i], x -> Check.text(x, 1));
                made.answers("pending", 1, x -> x.pending(1));
            }
        }
    }

    /** The same for the EDIT that follows NEWS: these are taken out before, so it has room. */
    private static void nextEditWhenFull() {
        Scene full = new Scene(x -> {
            x.insert(0, 0, 'a');
            x.insert(0, 1, 'b');
            x.deliver(0);
            for (int i = 0; i < 9; i++) {
                x.tick();
            }
        });
        full.answers("30 wait", 30, x -> x.waiting());
        full.changes("its NEWS", 2, x -> x.deliver(0));
        full.then(x -> x.deliver(0)).answers("30 wait", 30, x -> x.waiting());
        full.then(x -> x.deliver(0)).answers("EDIT", "0 0 1 1 1", x -> Check.message(x, 29));
    }

    /** The same for NEWS of one op to clients 0, 1, 2: the first ones have room. */
    private static void newsWhenFull() {
        for (int count = 27; count <= 30; count++) {
            int before = count;
            Scene made = waiting(before - 1).then(x -> x.insert(1, 0, 'z'));
            made.answers("waiting", before, x -> x.waiting());
            made.changes("the EDIT", 0, x -> x.deliver(before - 1));
            Scene news = made.then(x -> x.deliver(before - 1));
            int due = Math.min(before + 2, 30);
            news.answers("waiting", due, x -> x.waiting());
            news.answers("NEWS to 0", "2 0 2 2 1", x -> Check.message(x, before - 1));
            int last = due - before;
            news.answers("the last NEWS", "2 " + last + " 2 2 1", x -> Check.message(x, due - 1));
            news.answers("taken in all the same", "zab", x -> Check.text(x, 3));
        }
    }

    /** The same for the NEWS that an ASK brings: the first ones in their order have room. */
    private static void newsOfAskWhenFull() {
        for (int count = 26; count <= 30; count++) {
            int before = count;
            Scene behind = new Scene(x -> {
                x.connect(2, false);
                Check.type(x, 0, "abcd");
                for (int sent = 0; sent < before; sent += 2) {
                    x.tick();
                }
                while (x.lose(before - 1)) {
                    continue;
                }
                x.connect(2, true);
            });
            behind.answers("waiting", before, x -> x.waiting());
            behind.changes("the ASK", 1, x -> x.deliver(before - 1));
            Scene news = behind.then(x -> x.deliver(before - 1));
            int due = Math.min(before + 3, 30);
            news.answers("waiting", due, x -> x.waiting());
            news.answers("the first", "2 2 0 0 1", x -> Check.message(x, before - 1));
            int last = due - before;
            news.answers("the last", "2 2 " + last + " " + last + " 1", x ->
                    Check.message(x, due - 1));
        }
    }

    /** "An OFF client sends nothing". */
    private static void offSendsNothing() {
        Scene off = new Scene(x -> {
            Check.type(x, 0, "ab");
            x.connect(0, false);
        });
        off.then(x -> x.insert(0, 0, 'c')).answers("insert", 0, x -> x.waiting());
        off.then(x -> x.erase(0, 0)).answers("erase", 0, x -> x.waiting());
        off.then(x -> x.undo(0)).answers("undo", 0, x -> x.waiting());
        off.then(x -> x.tick()).answers("tick", "<1 1 2 0 1><1 2 2 0 1>", Check::messages);
        off.then(x -> x.insert(1, 0, 'c')).answers("another", 1, x -> x.waiting());
        Scene pending = off.then(x -> x.insert(0, 0, 'c'));
        pending.answers("the edit is made", "cab", x -> Check.text(x, 0));
        pending.then(x -> x.tick()).answers("tick", "<1 1 2 0 1><1 2 2 0 1>", Check::messages);
        pending.then(x -> x.connect(0, true)).answers("ON", "<0 0 2 2 1>", Check::messages);
    }

    /** What a client sent before it went OFF is on its way, and NEWS to it are sent. */
    private static void offAfterSending() {
        Scene sent = new Scene(x -> {
            x.insert(0, 0, 'a');
            x.connect(0, false);
        });
        sent.answers("its EDIT waits", 1, x -> x.waiting());
        sent.changes("its EDIT", 0, x -> x.deliver(0));
        Scene taken = sent.then(x -> x.deliver(0));
        taken.answers("taken in", "a", x -> Check.text(x, 3));
        taken.answers("NEWS to all", "<2 0 0 0 1><2 1 0 0 1><2 2 0 0 1>", Check::messages);
    }

    public static void main(String[] args) {
        objectOf512Calls();
        fullObjectOf512Calls();
        eachMove(TermsEdgeTest::movedByServer);
        eachMove(TermsEdgeTest::movedByClient);
        moveOverNothing();
        moveOfNothing();
        undoOverNothing();
        moveOverOwnInsert();
        editAsItWas();
        movedFromItsRevision();
        historyOfSixty();
        oldEdits();
        asks();
        newsPlaces();
        ownNewsTwice();
        numbers();
        onlyOneIsSent();
        nextIsSent();
        editWhenFull();
        nextEditWhenFull();
        newsWhenFull();
        newsOfAskWhenFull();
        offSendsNothing();
        offAfterSending();
        Check.finish();
    }
}
