/** Promises 12 to 17: deliver, lose, repeat, harm, tick, connect. */
public final class LineTest {
    private static void deliverAnswers() {
        CountedText x = new CountedText();
        Check.same("none", x.deliver(0), -1);
        Check.same("none at -1", x.deliver(-1), -1);
        x.insert(0, 0, 'a');
        x.tick();
        Check.same("none at 4", x.deliver(4), -1);
        Check.same("none at -1 of 4", x.deliver(-1), -1);
        Check.same("still 4", x.waiting(), 4);
        Check.same("EDIT", x.deliver(0), 0);
        Check.same("NEWS to 2, the last", x.deliver(5), 2);
        Check.same("client 2 has it", Check.text(x, 2), "a");
        Check.same("ASK of 1", x.deliver(1), 1);
        Check.same("the NEWS it asked for", Check.message(x, 4), "2 1 0 0 1");
        Check.same("waiting", x.waiting(), 5);
    }

    /** Two clients insert at one place: the lower site stands first, whoever is first in the order. */
    private static void insertsAtOnePlace() {
        for (int first = 0; first <= 1; first++) {
            CountedText x = new CountedText();
            x.insert(0, 0, 'a');
            x.insert(1, 0, 'b');
            x.deliver(first);
            Check.drain(x);
            Check.texts("the EDIT of " + first + " first", x, "ab");
        }
    }

    private static String joined(int firstToDeliver, String start, int[] a, int[] b) {
        CountedText x = new CountedText();
        Check.type(x, 2, start);
        edit(x, 0, a);
        edit(x, 1, b);
        x.deliver(firstToDeliver);
        Check.drain(x);
        Check.texts("all alike", x, Check.text(x, 3));
        return Check.text(x, 3);
    }

    /** An edit: a position, and a character or 0 to erase. */
    private static void edit(CountedText x, int client, int[] edit) {
        if (edit[1] == 0) {
            x.erase(client, edit[0]);
        } else {
            x.insert(client, edit[0], edit[1]);
        }
    }

    private static void moves() {
        for (int first = 0; first <= 1; first++) {
            String at = " with " + first + " first";
            Check.same("insert before insert" + at,
                    joined(first, "mn", new int[] {0, 'a'}, new int[] {1, 'b'}), "ambn");
            Check.same("insert behind insert" + at,
                    joined(first, "mn", new int[] {2, 'a'}, new int[] {1, 'b'}), "mbna");
            Check.same("insert where one is erased" + at,
                    joined(first, "mno", new int[] {1, 'a'}, new int[] {1, 0}), "mao");
            Check.same("erase where one is inserted" + at,
                    joined(first, "mno", new int[] {1, 0}, new int[] {1, 'b'}), "mbo");
            Check.same("insert behind what is erased" + at,
                    joined(first, "mno", new int[] {2, 'a'}, new int[] {1, 0}), "mao");
            Check.same("insert before what is erased" + at,
                    joined(first, "mno", new int[] {0, 'a'}, new int[] {1, 0}), "amo");
            Check.same("the same erased twice" + at,
                    joined(first, "mno", new int[] {1, 0}, new int[] {1, 0}), "mo");
            Check.same("two erased" + at,
                    joined(first, "mno", new int[] {0, 0}, new int[] {2, 0}), "n");
        }
    }

    /** A client's second pending edit is moved over the op as it came to that edit. */
    private static void newsMovesAllPending() {
        CountedText x = new CountedText();
        Check.type(x, 2, "mn");
        x.connect(0, false);
        x.insert(0, 0, 'a');
        x.erase(0, 1);
        x.insert(0, 2, 'b');
        x.erase(1, 0);
        x.insert(1, 1, 'c');
        Check.drain(x);
        Check.same("text of 1", Check.text(x, 1), "nc");
        x.connect(0, true);
        Check.drain(x);
        Check.same("NEWS of its own come too early", x.revision(3) + " " + x.revision(0), "5 2");
        x.tick();
        Check.drain(x);
        Check.texts("joined", x, "anbc");
        Check.same("the erase does nothing", Check.op(x, 5), "0 0 0 0 1");
    }

    private static void newsOutOfPlace() {
        CountedText x = new CountedText();
        x.insert(0, 0, 'a');
        x.insert(1, 0, 'b');
        x.deliver(0);
        x.deliver(0);
        Check.same("the second NEWS to 2", Check.message(x, 5), "2 2 1 0 1");
        Check.same("too early", x.deliver(5), 2);
        Check.same("does nothing", x.revision(2) + Check.text(x, 2), "0");
        x.repeat(2);
        Check.same("in place", x.deliver(2), 2);
        Check.same("is taken", x.revision(2) + Check.text(x, 2), "1a");
        Check.same("the same again", x.deliver(4), 2);
        Check.same("does nothing", x.revision(2) + Check.text(x, 2), "1a");
        Check.drain(x);
        x.tick();
        Check.drain(x);
        Check.texts("after a tick", x, "ab");
    }

    /** An EDIT that comes twice is done once; the second is as an ASK. */
    private static void editTwice() {
        CountedText x = new CountedText();
        x.insert(0, 0, 'a');
        x.repeat(0);
        x.deliver(0);
        Check.same("waiting after the first", x.waiting(), 4);
        Check.same("the second", x.deliver(0), 0);
        Check.same("one op", x.revision(3), 1);
        Check.same("NEWS to its author alone", x.waiting(), 4);
        Check.same("that NEWS", Check.message(x, 3), "2 0 0 0 1");
        Check.drain(x);
        Check.texts("done once", x, "a");
    }

    private static void askGetsAllFromItsRevision() {
        CountedText x = new CountedText();
        Check.type(x, 0, "a");
        x.connect(2, false);
        Check.type(x, 0, "bc");
        x.connect(2, true);
        Check.same("ASK", Check.message(x, 0), "1 2 1 0 1");
        x.deliver(0);
        Check.same("two NEWS", x.waiting(), 2);
        Check.same("the first", Check.message(x, 0), "2 2 1 1 1");
        Check.same("the second", Check.message(x, 1), "2 2 2 2 1");
        Check.drain(x);
        Check.same("caught up", Check.text(x, 2), "abc");
    }

    private static void nextPendingIsSent() {
        CountedText x = new CountedText();
        x.insert(1, 0, 'a');
        x.insert(1, 1, 'b');
        x.deliver(0);
        x.deliver(1);
        Check.same("next EDIT, with its revision and number", Check.message(x, 2), "0 1 1 1 1");
        x.deliver(2);
        Check.same("op 1", Check.op(x, 1), "1 1 98 1 1");
    }

    private static void loses() {
        CountedText x = new CountedText();
        Check.same("none", x.lose(0), false);
        x.tick();
        Check.same("none at 3", x.lose(3), false);
        Check.same("none at -1", x.lose(-1), false);
        Check.same("the middle one", x.lose(1), true);
        Check.same("first stays", Check.message(x, 0), "1 0 0 0 1");
        Check.same("last stays", Check.message(x, 1), "1 2 0 0 1");
        Check.same("waiting", x.waiting(), 2);
        x.insert(0, 0, 'a');
        Check.same("the EDIT", x.lose(2), true);
        Check.drain(x);
        Check.same("the server did not get it", x.revision(3), 0);
        x.tick();
        Check.drain(x);
        Check.texts("sent again", x, "a");
    }

    private static void repeats() {
        CountedText x = new CountedText();
        Check.same("none", x.repeat(0), false);
        x.insert(1, 0, 'a');
        x.tick();
        x.harm(0, 7);
        Check.same("none at 4", x.repeat(4), false);
        Check.same("none at -1", x.repeat(-1), false);
        Check.same("a damaged one", x.repeat(0), true);
        Check.same("damaged as it is", Check.message(x, 4), "0 1 0 0 0");
        Check.same("first stays", Check.message(x, 0), "0 1 0 0 0");
        x.harm(4, 7);
        Check.same("the copy mended", Check.message(x, 4), "0 1 0 0 1");
        Check.same("the first is as it was", Check.message(x, 0), "0 1 0 0 0");
        Check.same("a whole one", x.repeat(1), true);
        Check.same("comes last", Check.message(x, 5), "1 0 0 0 1");
        for (int i = 7; i <= 30; i++) {
            Check.same("repeat to " + i, x.repeat(0), true);
        }
        Check.same("30 wait", x.repeat(0), false);
        Check.same("still 30", x.waiting(), 30);
        Check.same("a copy brings the op too", x.deliver(4), 0);
        Check.same("op", Check.op(x, 0), "1 0 97 1 0");
        Check.same("place for one of the NEWS", x.waiting(), 30);
        Check.same("that to 0", Check.message(x, 29), "2 0 0 0 1");
    }

    private static void harms() {
        CountedText x = new CountedText();
        Check.same("none", x.harm(0, 1), false);
        x.insert(0, 0, 'a');
        Check.same("none at 1", x.harm(1, 1), false);
        Check.same("none at -1", x.harm(-1, 1), false);
        Check.same("no bits", x.harm(0, 0), true);
        Check.same("whole", x.message(0, 4), 1);
        Check.same("only bits above", x.harm(0, 0x7fffff00), true);
        Check.same("whole", x.message(0, 4), 1);
        x.harm(0, 128);
        Check.same("damaged", x.message(0, 4), 0);
        x.harm(0, 1);
        Check.same("damaged twice", x.message(0, 4), 0);
        x.harm(0, -127);
        Check.same("mended by -127, whose low bits are 129", x.message(0, 4), 1);
        x.harm(0, 255);
        Check.same("damaged again", x.deliver(0), -2);
        Check.same("taken out", x.waiting(), 0);
        Check.same("nothing else happened", x.revision(3), 0);
        x.tick();
        Check.same("a new message is whole", x.message(0, 4), 1);
        x.harm(0, 3);
        x.harm(0, 3);
        Check.same("mended", x.deliver(0), 0);
        Check.same("gets there", x.revision(3), 1);
    }

    private static void damagedNews() {
        CountedText x = new CountedText();
        x.insert(0, 0, 'a');
        x.deliver(0);
        x.harm(1, 1);
        Check.same("damaged NEWS", x.deliver(1), -2);
        Check.same("not known", x.revision(1), 0);
        x.crash();
        x.tick();
        x.harm(2, 1);
        Check.same("damaged while the server is down", x.deliver(2), -2);
    }

    private static void ticks() {
        CountedText x = new CountedText();
        x.connect(1, false);
        x.insert(2, 0, 'a');
        x.insert(2, 1, 'b');
        Check.loseAll(x);
        x.tick();
        Check.same("two are on", x.waiting(), 2);
        Check.same("ASK of 0", Check.message(x, 0), "1 0 0 0 1");
        Check.same("first EDIT of 2", Check.message(x, 1), "0 2 0 0 1");
        x.deliver(1);
        Check.same("the first edit", Check.op(x, 0), "1 0 97 2 0");
    }

    /** An EDIT that is sent again is the edit as it is then, with the revision of then. */
    private static void tickSendsEditAsItIs() {
        CountedText x = new CountedText();
        x.insert(2, 0, 'b');
        Check.loseAll(x);
        x.insert(0, 0, 'a');
        Check.drain(x);
        x.tick();
        Check.same("EDIT of 2", Check.message(x, 2), "0 2 1 0 1");
        x.deliver(2);
        Check.same("op as moved by the client", Check.op(x, 1), "1 1 98 2 0");
    }

    private static void connects() {
        CountedText x = new CountedText();
        Check.same("no client 3", x.connect(3, false), false);
        Check.same("no client -1", x.connect(-1, true), false);
        Check.same("on already", x.connect(0, true), false);
        Check.same("nothing sent", x.waiting(), 0);
        Check.same("off", x.connect(0, false), true);
        Check.same("off already", x.connect(0, false), false);
        Check.same("going off sends nothing", x.waiting(), 0);
        Check.same("an edit while off", x.insert(0, 0, 'a'), 1);
        x.insert(0, 1, 'b');
        Check.same("is not sent", x.waiting(), 0);
        Check.type(x, 1, "z");
        Check.same("NEWS to it are lost", x.revision(0) + Check.text(x, 0), "0ab");
        Check.same("on", x.connect(0, true), true);
        Check.same("sends its EDIT", Check.message(x, 0), "0 0 0 0 1");
        Check.same("and no more", x.waiting(), 1);
        Check.drain(x);
        x.tick();
        Check.drain(x);
        Check.texts("joined", x, "abz");
        x.connect(2, false);
        x.connect(2, true);
        Check.same("sends an ASK", Check.message(x, 0), "1 2 3 0 1");
    }

    private static void offClientLosesOnlyWhatComes() {
        CountedText x = new CountedText();
        x.insert(0, 0, 'a');
        x.connect(0, false);
        Check.same("its EDIT goes on", x.deliver(0), 0);
        Check.same("taken in", x.revision(3), 1);
        Check.same("NEWS to it", x.deliver(0), 2);
        Check.same("are lost", x.pending(0) + " " + x.revision(0), "1 0");
        Check.same("taken out", x.waiting(), 2);
    }

    public static void main(String[] args) {
        deliverAnswers();
        insertsAtOnePlace();
        moves();
        newsMovesAllPending();
        newsOutOfPlace();
        editTwice();
        askGetsAllFromItsRevision();
        nextPendingIsSent();
        loses();
        repeats();
        harms();
        damagedNews();
        ticks();
        tickSendsEditAsItIs();
        connects();
        offClientLosesOnlyWhatComes();
        Check.finish();
    }
}
