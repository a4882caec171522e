import java.util.ArrayList;
import java.util.List;
import java.util.NoSuchElementException;

/**
 * The document's terms once more, written with lists and without a thought for room, and apart from
 * the program: history and journal are two rows here, and a message bears a mark.
 */
final class Model {
    record Op(int kind, int position, int character, int site) {
        Op at(int p) {
            return new Op(kind, p, character, site);
        }

        Op over(Op b) {
            if (kind == 0 || b.kind == 0 || position < b.position) {
                return this;
            }
            boolean same = position == b.position;
            if (b.kind == 1) {
                return same && kind == 1 && site < b.site ? this : at(position + 1);
            }
            if (same && kind == 1) {
                return this;
            }
            return same ? new Op(0, 0, 0, site) : at(position - 1);
        }

        char doTo(StringBuilder text) {
            char touched = 0;
            if (kind == 1) {
                text.insert(position, (char) character);
            } else if (kind == 2) {
                touched = text.charAt(position);
                text.deleteCharAt(position);
            }
            return touched;
        }
    }

    record Entry(Op op, int author, int number) { }

    static final class Logged {
        Op op;
        int erased;
        boolean own;
        boolean byUndo;
        boolean undone;
    }

    static final class Message {
        int kind;
        int client;
        int revision;
        int number;
        Op op;
        int author;
        int mark;
        int rightMark;

        boolean whole() {
            return mark == rightMark;
        }

        Message copy() {
            Message m = new Message();
            m.kind = kind;
            m.client = client;
            m.revision = revision;
            m.number = number;
            m.op = op;
            m.author = author;
            m.mark = mark;
            m.rightMark = rightMark;
            return m;
        }
    }

    static final class Client {
        final StringBuilder text = new StringBuilder();
        final List<Logged> log = new ArrayList<>();
        final List<Op> pending = new ArrayList<>();
        int back = 0;
        int revision = 0;
        boolean on = true;
    }

    final Client[] clients = {new Client(), new Client(), new Client()};
    final List<Message> line = new ArrayList<>();
    final List<Entry> journal = new ArrayList<>();
    List<Entry> history = new ArrayList<>();
    StringBuilder text = new StringBuilder();
    boolean up = true;
    int trip = 0;

    private static boolean no(int client) {
        return client < 0 || client > 2;
    }

    int insert(int client, int p, int character) {
        if (no(client) || character < 32 || character > 126) {
            throw new IllegalArgumentException();
        }
        Client c = clients[client];
        if (p < 0 || p > c.text.length()) {
            throw new IndexOutOfBoundsException();
        }
        if (c.pending.size() == 8 || c.text.length() >= 60) {
            throw new IllegalStateException();
        }
        make(client, new Op(1, p, character, client), false);
        return c.pending.size();
    }

    int erase(int client, int p) {
        if (no(client)) {
            throw new IllegalArgumentException();
        }
        Client c = clients[client];
        if (p < 0 || p >= c.text.length()) {
            throw new IndexOutOfBoundsException();
        }
        if (c.pending.size() == 8) {
            throw new IllegalStateException();
        }
        make(client, new Op(2, p, 0, client), false);
        return c.pending.size();
    }

    int undo(int client) {
        if (no(client)) {
            throw new IllegalArgumentException();
        }
        Client c = clients[client];
        int at = c.log.size() - 1;
        while (at >= 0 && (!c.log.get(at).own || c.log.get(at).byUndo || c.log.get(at).undone)) {
            at--;
        }
        if (at < 0) {
            throw new NoSuchElementException();
        }
        if (c.pending.size() == 8 || c.text.length() >= 60) {
            throw new IllegalStateException();
        }
        Logged edit = c.log.get(at);
        edit.undone = true;
        Op back = edit.op.kind() == 1 ? new Op(2, edit.op.position(), 0, client)
                : new Op(1, edit.op.position(), edit.erased, client);
        for (Logged later : c.log.subList(at + 1, c.log.size())) {
            back = back.over(later.op);
        }
        if (back.kind() == 0) {
            return 0;
        }
        make(client, back, true);
        return 1;
    }

    private void make(int client, Op op, boolean byUndo) {
        Client c = clients[client];
        perform(c, op, true, byUndo);
        c.pending.add(op);
        if (c.pending.size() == 1) {
            sendEdit(client);
        }
    }

    private void perform(Client c, Op op, boolean own, boolean byUndo) {
        Logged logged = new Logged();
        logged.erased = op.doTo(c.text);
        logged.op = op;
        logged.own = own;
        logged.byUndo = byUndo;
        c.log.add(logged);
    }

    private void send(Message m) {
        if (line.size() < 30) {
            line.add(m);
        }
    }

    private void sendEdit(int client) {
        Client c = clients[client];
        Message m = new Message();
        m.client = client;
        m.revision = c.revision;
        m.number = c.back;
        m.op = c.pending.get(0);
        m.mark = m.rightMark = 77;
        if (c.on) {
            send(m);
        }
    }

    private void sendAgain(int client) {
        Client c = clients[client];
        if (!c.on) {
            return;
        }
        if (!c.pending.isEmpty()) {
            sendEdit(client);
            return;
        }
        Message m = new Message();
        m.kind = 1;
        m.client = client;
        m.revision = c.revision;
        m.mark = m.rightMark = 13;
        send(m);
    }

    private void sendNews(int place, int to) {
        Message m = new Message();
        m.kind = 2;
        m.client = to;
        m.revision = place;
        m.op = history.get(place).op();
        m.author = history.get(place).author();
        m.number = history.get(place).number();
        m.mark = m.rightMark = 200;
        send(m);
    }

    int deliver(int k) {
        if (k < 0 || k >= line.size()) {
            return -1;
        }
        Message m = line.remove(k);
        if (!m.whole()) {
            return -2;
        }
        if (m.kind == 2) {
            clientGets(m);
        } else if (up) {
            serverGets(m);
        }
        return m.kind;
    }

    private void serverGets(Message m) {
        int due = 0;
        for (Entry e : history) {
            due += e.author() == m.client ? 1 : 0;
        }
        if (m.kind == 1 || m.number < due) {
            for (int place = m.revision; place < history.size(); place++) {
                sendNews(place, m.client);
            }
        } else if (m.number == due && history.size() < 60) {
            Op op = m.op;
            for (Entry e : history.subList(m.revision, history.size())) {
                op = op.over(e.op());
            }
            if (trip == 1) {
                up = false;
                return;
            }
            Entry entry = new Entry(op, m.client, m.number);
            journal.add(entry);
            if (trip == 2) {
                up = false;
                return;
            }
            history.add(entry);
            op.doTo(text);
            for (int to = 0; to < 3; to++) {
                sendNews(history.size() - 1, to);
            }
        }
    }

    private void clientGets(Message m) {
        Client c = clients[m.client];
        if (!c.on || m.revision != c.revision) {
            return;
        }
        c.revision++;
        if (m.author == m.client) {
            c.pending.remove(0);
            c.back++;
            if (!c.pending.isEmpty()) {
                sendEdit(m.client);
            }
            return;
        }
        Op op = m.op;
        for (int i = 0; i < c.pending.size(); i++) {
            Op edit = c.pending.get(i);
            c.pending.set(i, edit.over(op));
            op = op.over(edit);
        }
        perform(c, op, false, false);
    }

    boolean lose(int k) {
        if (k < 0 || k >= line.size()) {
            return false;
        }
        line.remove(k);
        return true;
    }

    boolean repeat(int k) {
        if (k < 0 || k >= line.size() || line.size() == 30) {
            return false;
        }
        line.add(line.get(k).copy());
        return true;
    }

    boolean harm(int k, int x) {
        if (k < 0 || k >= line.size()) {
            return false;
        }
        line.get(k).mark ^= x & 0xff;
        return true;
    }

    void tick() {
        for (int c = 0; c < 3; c++) {
            sendAgain(c);
        }
    }

    boolean connect(int client, boolean on) {
        if (no(client) || clients[client].on == on) {
            return false;
        }
        clients[client].on = on;
        sendAgain(client);
        return true;
    }

    boolean trip(int how) {
        if (how < 0 || how > 2) {
            return false;
        }
        trip = how;
        return true;
    }

    boolean crash() {
        boolean was = up;
        up = false;
        return was;
    }

    boolean restart() {
        if (up) {
            return false;
        }
        up = true;
        trip = 0;
        history = new ArrayList<>(journal);
        text = new StringBuilder();
        for (Entry e : history) {
            e.op().doTo(text);
        }
        return true;
    }

    private static boolean noSide(int side) {
        return no(side) && side != 3;
    }

    private StringBuilder textOf(int side) {
        return side == 3 ? text : clients[side].text;
    }

    int length(int side) {
        return noSide(side) || side == 3 && !up ? -1 : textOf(side).length();
    }

    int character(int side, int p) {
        if (noSide(side)) {
            throw new IllegalArgumentException();
        }
        if (side == 3 && !up) {
            throw new IllegalStateException();
        }
        if (p < 0 || p >= textOf(side).length()) {
            throw new IndexOutOfBoundsException();
        }
        return textOf(side).charAt(p);
    }

    int revision(int side) {
        if (noSide(side)) {
            return -1;
        }
        return side == 3 ? journal.size() : clients[side].revision;
    }

    int pending(int client) {
        return no(client) ? -1 : clients[client].pending.size();
    }

    private static int part(int what, int... parts) {
        return what < 0 || what >= parts.length ? -1 : parts[what];
    }

    int op(int i, int what) {
        if (i < 0 || i >= journal.size()) {
            return -1;
        }
        Entry e = journal.get(i);
        return part(what, e.op().kind(), e.op().position(), e.op().character(), e.author(), e.number());
    }

    int waiting() {
        return line.size();
    }

    int message(int k, int what) {
        if (k < 0 || k >= line.size()) {
            return -1;
        }
        Message m = line.get(k);
        return part(what, m.kind, m.client, m.revision, m.number, m.whole() ? 1 : 0);
    }

    /** All clients know the whole history and have nothing pending. */
    boolean isTogether() {
        boolean together = up && line.isEmpty();
        for (Client c : clients) {
            together &= c.pending.isEmpty() && c.revision == history.size();
        }
        return together;
    }
}
