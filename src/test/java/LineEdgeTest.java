/** Promises 12 to 17 where they end: for each sentence that names a boundary, a test of its own. */
public final class LineEdgeTest {
    private static final int[] NO_CLIENTS = {-1, 3, 4, Integer.MIN_VALUE, Integer.MAX_VALUE};
    private static final int[] NO_MESSAGES = {6, 7, 30, -1, -2, Integer.MIN_VALUE, Integer.MAX_VALUE};

    /** NEWS to 0 and 2, an EDIT of 1, an ASK of 0, that EDIT again, an ASK of 2. */
    private static final Scene SIX = new Scene(x -> {
        Check.type(x, 1, "ab");
        x.insert(1, 2, 'c');
        x.deliver(0);
        x.deliver(1);
        x.insert(1, 3, 'd');
        x.tick();
    });
    private static final int NEWS_TO_0 = 0;
    private static final int NEWS_TO_2 = 1;
    private static final int EDIT_OF_1 = 2;
    private static final int ASK_OF_0 = 3;
    private static final int LAST = 5;
    private static final int[] KINDS = {2, 2, 0, 1, 0, 1};
    private static final String[] ROW = {"<2 0 2 2 1>", "<2 2 2 2 1>", "<0 1 3 3 1>", "<1 0 2 0 1>",
        "<0 1 3 3 1>", "<1 2 2 0 1>"};

    /** That many ASKs wait. */
    private static Scene waiting(int count) {
        return new Scene(x -> {
            for (int sent = 0; sent < count; sent += 3) {
                x.tick();
            }
            while (x.lose(count)) {
                continue;
            }
        });
    }

    private static String rowWithout(int k) {
        StringBuilder row = new StringBuilder();
        for (int i = 0; i < ROW.length; i++) {
            row.append(i == k ? "" : ROW[i]);
        }
        return row.toString();
    }

    private static Object tick(CountedText x) {
        x.tick();
        return "ticked";
    }

    /** deliver: "-1 if there is none". */
    private static void deliverNone() {
        for (int k : NO_MESSAGES) {
            SIX.refuses("deliver " + k + " of 6", -1, x -> x.deliver(k));
            Scene.fresh().refuses("deliver " + k + " of none", -1, x -> x.deliver(k));
        }
        Scene.fresh().refuses("deliver 0 of none", -1, x -> x.deliver(0));
        waiting(1).refuses("deliver 1 of one", -1, x -> x.deliver(1));
        waiting(1).changes("deliver 0 of one", 1, x -> x.deliver(0));
        waiting(30).refuses("deliver 30 of 30", -1, x -> x.deliver(30));
        waiting(30).changes("deliver 29 of 30", 1, x -> x.deliver(29));
    }

    /** deliver: "is taken out", that one and no other; "its kind". */
    private static void deliverTakesOut() {
        for (int at = 0; at <= LAST; at++) {
            int k = at;
            SIX.changes("deliver " + k, KINDS[k], x -> x.deliver(k));
            Scene after = SIX.then(x -> x.deliver(k));
            after.answers("what stays", true, x -> Check.messages(x).startsWith(rowWithout(k)));
        }
    }

    /** deliver: "-2 if it is damaged (it is taken out, nothing else happens)". */
    private static void deliverDamaged() {
        for (int at = 0; at <= LAST; at++) {
            int k = at;
            Scene harmed = SIX.then(x -> x.harm(k, Scene.HARM));
            harmed.changes("deliver " + k + ", damaged", -2, x -> x.deliver(k));
            Scene after = harmed.then(x -> x.deliver(k));
            after.isAs("delivered damaged " + k, SIX.then(x -> x.lose(k)));
            after.answers("5 wait", 5, x -> x.waiting());
            Scene mended = harmed.then(x -> x.harm(k, Scene.HARM));
            mended.changes("deliver " + k + ", mended", KINDS[k], x -> x.deliver(k));
        }
    }

    /** Damage comes before where it goes: also one that would be lost answers -2. */
    private static void deliverDamagedToNobody() {
        Scene nobody = SIX.then(x -> {
            x.crash();
            x.connect(0, false);
        });
        for (int k : new int[] {NEWS_TO_0, EDIT_OF_1, ASK_OF_0}) {
            Scene harmed = nobody.then(x -> x.harm(k, Scene.HARM));
            harmed.changes("deliver " + k + " to nobody, damaged", -2, x -> x.deliver(k));
        }
    }

    /** Terms: "what comes to" an OFF client "is lost". */
    private static void deliverToOff() {
        Scene off = SIX.then(x -> x.connect(0, false));
        off.changes("NEWS to an OFF client", 2, x -> x.deliver(NEWS_TO_0));
        Scene came = off.then(x -> x.deliver(NEWS_TO_0));
        came.isAs("NEWS to an OFF client", off.then(x -> x.lose(NEWS_TO_0)));
        Scene other = off.then(x -> x.deliver(NEWS_TO_2));
        other.answers("NEWS to one that is ON", 3, x -> x.revision(2));
        Scene on = off.then(x -> {
            x.connect(0, true);
            x.deliver(NEWS_TO_0);
        });
        on.answers("NEWS sent while OFF, that come while ON", 3, x -> x.revision(0));
    }

    /** Terms: "so is what comes to the server while it is down". */
    private static void deliverToDown() {
        Scene down = SIX.then(x -> x.crash());
        down.changes("an EDIT while down", 0, x -> x.deliver(EDIT_OF_1));
        Scene edit = down.then(x -> x.deliver(EDIT_OF_1));
        edit.isAs("an EDIT while down", down.then(x -> x.lose(EDIT_OF_1)));
        down.changes("an ASK while down", 1, x -> x.deliver(ASK_OF_0));
        Scene ask = down.then(x -> x.deliver(ASK_OF_0));
        ask.isAs("an ASK while down", down.then(x -> x.lose(ASK_OF_0)));
        Scene news = down.then(x -> x.deliver(NEWS_TO_0));
        news.answers("NEWS while down", 3, x -> x.revision(0));
        Scene up = down.then(x -> {
            x.restart();
            x.deliver(EDIT_OF_1);
        });
        up.answers("an EDIT sent before, that comes when up", 4, x -> x.revision(3));
    }

    /** lose: "false if there is none". */
    private static void loseNone() {
        for (int k : NO_MESSAGES) {
            SIX.refuses("lose " + k + " of 6", false, x -> x.lose(k));
            Scene.fresh().refuses("lose " + k + " of none", false, x -> x.lose(k));
        }
        Scene.fresh().refuses("lose 0 of none", false, x -> x.lose(0));
        waiting(1).refuses("lose 1 of one", false, x -> x.lose(1));
        waiting(1).then(x -> x.lose(0)).isAs("lose the only one", Scene.fresh());
        waiting(30).refuses("lose 30 of 30", false, x -> x.lose(30));
        waiting(30).then(x -> x.lose(29)).isAs("lose 29 of 30", waiting(29));
    }

    /** lose: "is lost": that one, and nothing comes of it. */
    private static void loseEach() {
        for (int at = 0; at <= LAST; at++) {
            int k = at;
            SIX.changes("lose " + k, true, x -> x.lose(k));
            Scene after = SIX.then(x -> x.lose(k));
            after.answers("what stays without " + k, rowWithout(k), Check::messages);
            after.answers("nothing came of it", "2 2 3", x ->
                    x.revision(0) + " " + x.revision(2) + " " + x.revision(3));
            Scene harmed = SIX.then(x -> x.harm(k, Scene.HARM));
            harmed.then(x -> x.lose(k)).isAs("lose a damaged one", after);
        }
    }

    /** repeat: "false, refused, if there is none". */
    private static void repeatNone() {
        for (int k : NO_MESSAGES) {
            SIX.refuses("repeat " + k + " of 6", false, x -> x.repeat(k));
            Scene.fresh().refuses("repeat " + k + " of none", false, x -> x.repeat(k));
            waiting(30).refuses("repeat " + k + " of 30", false, x -> x.repeat(k));
        }
        Scene.fresh().refuses("repeat 0 of none", false, x -> x.repeat(0));
        waiting(1).refuses("repeat 1 of one", false, x -> x.repeat(1));
        waiting(29).refuses("repeat 29 of 29", false, x -> x.repeat(29));
    }

    /** repeat: "or 30 wait". */
    private static void repeatFull() {
        for (int k : new int[] {0, 15, 27}) {
            waiting(28).changes("repeat " + k + " of 28", true, x -> x.repeat(k));
            waiting(29).changes("repeat " + k + " of 29", true, x -> x.repeat(k));
            waiting(29).then(x -> x.repeat(k)).answers("30 wait", 30, x -> x.waiting());
            waiting(30).refuses("repeat " + k + " of 30", false, x -> x.repeat(k));
        }
        waiting(29).changes("repeat the last of 29", true, x -> x.repeat(28));
        waiting(30).refuses("repeat the last of 30", false, x -> x.repeat(29));
        Scene less = waiting(30).then(x -> x.lose(0));
        less.changes("repeat when one is lost", true, x -> x.repeat(0));
    }

    /** repeat: "a copy (damaged as it is) is sent": it comes last, and the two are apart. */
    private static void repeatEach() {
        for (int at = 0; at <= LAST; at++) {
            int k = at;
            Scene twice = SIX.then(x -> x.repeat(k));
            twice.answers("row with " + k + " twice", rowWithout(-1) + ROW[k], Check::messages);
            twice.then(x -> x.lose(6)).isAs("the copy lost", SIX);
            Scene harmed = SIX.then(x -> {
                x.harm(k, Scene.HARM);
                x.repeat(k);
            });
            harmed.answers("damaged as it is", "0 0", x -> x.message(k, 4) + " " + x.message(6, 4));
            Scene mended = harmed.then(x -> x.harm(6, Scene.HARM));
            mended.answers("the copy mended", "0 1", x -> x.message(k, 4) + " " + x.message(6, 4));
            mended.answers("the copy delivered", KINDS[k], x -> x.deliver(6));
        }
    }

    /** harm: "False if there is no such message". */
    private static void harmNone() {
        for (int k : NO_MESSAGES) {
            SIX.refuses("harm " + k + " of 6", false, x -> x.harm(k, 1));
            Scene.fresh().refuses("harm " + k + " of none", false, x -> x.harm(k, 1));
        }
        SIX.refuses("harm none with no bits", false, x -> x.harm(6, 0));
        Scene.fresh().refuses("harm 0 of none", false, x -> x.harm(0, 255));
        waiting(30).refuses("harm 30 of 30", false, x -> x.harm(30, 1));
        waiting(30).changes("harm 29 of 30", true, x -> x.harm(29, 1));
    }

    /** harm: "the lowest eight bits of x". */
    private static void harmBits() {
        for (int bit = 0; bit < 32; bit++) {
            int bits = 1 << bit;
            SIX.answers("harm with bit " + bit, true, x -> x.harm(LAST, bits));
            Scene harmed = SIX.then(x -> x.harm(LAST, bits));
            harmed.answers("bit " + bit, bit < 8 ? 0 : 1, x -> x.message(LAST, 4));
        }
        for (int bits : new int[] {255, -1, Integer.MAX_VALUE, 0x1ff, -255, 129}) {
            Scene harmed = SIX.then(x -> x.harm(0, bits));
            harmed.answers("damaged by " + bits, 0, x -> x.message(0, 4));
        }
    }

    /** harm: "(which may all be 0)". */
    private static void harmWithNoBits() {
        for (int bits : new int[] {0, 256, -256, 0x7fffff00, Integer.MIN_VALUE}) {
            SIX.refuses("harm with " + bits, true, x -> x.harm(0, bits));
            Scene harmed = SIX.then(x -> x.harm(0, Scene.HARM));
            harmed.refuses("harm a damaged one with " + bits, true, x -> x.harm(0, bits));
        }
    }

    /** harm: "it is damaged as long as that is not the right one". */
    private static void harmTwice() {
        int[][] pairs = {{1, 1, 1}, {255, -1, 1}, {128, -128, 1}, {5, 261, 1}, {3, 1, 0}, {1, 2, 0},
            {255, 254, 0}, {127, 128, 0}, {255, 1, 0}};
        for (int[] pair : pairs) {
            Scene twice = SIX.then(x -> {
                x.harm(2, pair[0]);
                x.harm(2, pair[1]);
            });
            twice.answers(pair[0] + " and " + pair[1], pair[2], x -> x.message(2, 4));
        }
        Scene thrice = SIX.then(x -> {
            x.harm(2, 1);
            x.harm(2, 2);
            x.harm(2, 3);
        });
        thrice.isAs("1, 2 and 3", SIX);
    }

    /** harm: "of the k-th waiting message", and of no other; it stays with its message. */
    private static void harmOne() {
        for (int at = 0; at <= LAST; at++) {
            int k = at;
            StringBuilder due = new StringBuilder();
            for (int i = 0; i < ROW.length; i++) {
                due.append(i == k ? ROW[i].replace(" 1>", " 0>") : ROW[i]);
            }
            Scene harmed = SIX.then(x -> x.harm(k, Scene.HARM));
            harmed.answers("only " + k + " is damaged", due.toString(), Check::messages);
        }
        Scene moved = SIX.then(x -> {
            x.harm(3, Scene.HARM);
            x.lose(0);
        });
        moved.answers("the mark moves up with it", "1 0 1", x ->
                x.message(1, 4) + " " + x.message(2, 4) + " " + x.message(3, 4));
        Scene after = SIX.then(x -> {
            x.harm(LAST, Scene.HARM);
            x.lose(LAST);
            x.tick();
        });
        after.answers("one sent to its place is whole", 1, x -> x.message(LAST, 4));
    }

    /** tick: "Each client that is ON, in their order". */
    private static void tickInOrder() {
        String[] asks = {"<1 0 0 0 1>", "<1 1 0 0 1>", "<1 2 0 0 1>"};
        for (int set = 0; set < 8; set++) {
            int off = set;
            Scene scene = new Scene(x -> {
                for (int client = 0; client < 3; client++) {
                    if ((off >> client & 1) == 1) {
                        x.connect(client, false);
                    }
                }
            });
            StringBuilder due = new StringBuilder();
            for (int client = 0; client < 3; client++) {
                due.append((off >> client & 1) == 1 ? "" : asks[client]);
            }
            scene.then(x -> x.tick()).answers("tick", due.toString(), Check::messages);
            if (off == 7) {
                scene.refuses("tick with all OFF", "ticked", LineEdgeTest::tick);
            }
        }
    }

    /** tick: "its EDIT again, if it has a pending edit, else an ASK". */
    private static void tickWithPending() {
        for (int count = 0; count <= 8; count++) {
            int pending = count;
            Scene scene = new Scene(x -> {
                Check.type(x, 1, "ab");
                for (int i = 0; i < pending; i++) {
                    x.insert(1, 0, 'c');
                }
                Check.loseAll(x);
                x.tick();
            });
            String due = pending == 0 ? "<1 1 2 0 1>" : "<0 1 2 2 1>";
            scene.answers("tick with " + pending + " pending", "<1 0 2 0 1>" + due + "<1 2 2 0 1>",
                    Check::messages);
        }
    }

    /** tick when few have room: the first clients' messages wait, the others' are lost. */
    private static void tickWhenFull() {
        for (int count = 26; count <= 29; count++) {
            int before = count;
            Scene after = waiting(before).then(x -> x.tick());
            int due = Math.min(before + 3, 30);
            after.answers("tick at " + before, due, x -> x.waiting());
            after.answers("of client 0", 0, x -> x.message(before, 1));
            after.answers("of the last one", due - before - 1, x -> x.message(due - 1, 1));
        }
        waiting(30).refuses("tick at 30", "ticked", LineEdgeTest::tick);
    }

    /** connect: "false, refused, if there is no such client". */
    private static void connectClients() {
        Scene off = SIX.then(x -> x.connect(1, false));
        for (int client : NO_CLIENTS) {
            for (Scene scene : new Scene[] {SIX, off}) {
                scene.refuses("connect " + client, false, x -> x.connect(client, true));
                scene.refuses("disconnect " + client, false, x -> x.connect(client, false));
            }
        }
        for (int client = 0; client < 3; client++) {
            int of = client;
            SIX.changes("disconnect " + of, true, x -> x.connect(of, false));
        }
    }

    /** connect: "or it is so already". */
    private static void connectAsItIs() {
        for (int client = 0; client < 3; client++) {
            int of = client;
            SIX.refuses("ON already " + of, false, x -> x.connect(of, true));
            Scene off = SIX.then(x -> x.connect(of, false));
            off.refuses("OFF already " + of, false, x -> x.connect(of, false));
            off.changes("ON " + of, true, x -> x.connect(of, true));
            Scene on = off.then(x -> x.connect(of, true));
            on.refuses("ON already again " + of, false, x -> x.connect(of, true));
            on.changes("OFF again " + of, true, x -> x.connect(of, false));
            int other = (of + 1) % 3;
            off.refuses("the other is ON still", false, x -> x.connect(other, true));
        }
    }

    /** connect: "(and sends as with a tick)", when it goes ON, and that client alone. */
    private static void connectSends() {
        Scene off = new Scene(x -> {
            Check.type(x, 0, "ab");
            x.connect(0, false);
        });
        off.answers("going OFF sends nothing", 0, x -> x.waiting());
        off.then(x -> x.connect(0, true)).answers("an ASK", "<1 0 2 0 1>", Check::messages);
        for (int count = 1; count <= 8; count++) {
            int pending = count;
            Scene scene = off.then(x -> {
                for (int i = 0; i < pending; i++) {
                    x.insert(0, 0, 'c');
                }
                x.connect(0, true);
            });
            scene.answers("its first EDIT", "<0 0 2 2 1>", Check::messages);
        }
    }

    /** connect when 30 wait: what it sends is lost, and it is ON all the same. */
    private static void connectWhenFull() {
        for (int count = 28; count <= 30; count++) {
            int before = count;
            Scene off = waiting(before).then(x -> x.connect(2, false));
            off.answers("waiting", before, x -> x.waiting());
            off.changes("ON at " + before, true, x -> x.connect(2, true));
            Scene on = off.then(x -> x.connect(2, true));
            on.answers("waiting then", Math.min(before + 1, 30), x -> x.waiting());
            on.refuses("ON already", false, x -> x.connect(2, true));
        }
    }

    public static void main(String[] args) {
        deliverNone();
        deliverTakesOut();
        deliverDamaged();
        deliverDamagedToNobody();
        deliverToOff();
        deliverToDown();
        loseNone();
        loseEach();
        repeatNone();
        repeatFull();
        repeatEach();
        harmNone();
        harmBits();
        harmWithNoBits();
        harmTwice();
        harmOne();
        tickInOrder();
        tickWithPending();
        tickWhenFull();
        connectClients();
        connectAsItIs();
        connectSends();
        connectWhenFull();
        Check.finish();
    }
}
