import java.util.NoSuchElementException;

/**
 * Three clients write one text together over a bad line, and a server with a journal puts their
 * edits in one order. All rows are made with the object, so that no call makes anything new.
 */
public final class JointText {
    private static final int CLIENTS = 3;
    private static final int SERVER = 3;

    private static final int FIRST_CHARACTER = 32;
    private static final int LAST_CHARACTER = 126;

    private static final int MOST_PENDING = 8;
    private static final int MOST_IN_HISTORY = 60;
    private static final int MOST_WAITING = 30;
    private static final int FULL_TEXT = 60;
    // A client does to its text what it knows of the history and its pending edits, and no more.
    private static final int MOST_DONE = MOST_IN_HISTORY + MOST_PENDING;

    private static final int NOTHING = 0;
    private static final int INSERT = 1;
    private static final int ERASE = 2;

    private static final int EDIT = 0;
    private static final int ASK = 1;
    private static final int NEWS = 2;

    private static final int NONE = -1;
    private static final int DAMAGED = -2;

    private static final int NO_TRIP = 0;
    private static final int TRIP_BEFORE_WRITING = 1;
    private static final int TRIP_WHEN_WRITTEN = 2;

    private final Client[] clients;
    private final Server server;
    private final Line line;

    public JointText() {
        clients = new Client[] {new Client(0), new Client(1), new Client(2)};
        server = new Server();
        line = new Line();
    }

    public int insert(int client, int p, int character)
            throws IllegalArgumentException, IndexOutOfBoundsException, IllegalStateException {
        if (!isClient(client) || character < FIRST_CHARACTER || character > LAST_CHARACTER) {
            throw new IllegalArgumentException();
        }
        Client maker = clients[client];
        if (p < 0 || p > maker.text.size()) {
            throw new IndexOutOfBoundsException();
        }
        if (maker.isFull()) {
            throw new IllegalStateException();
        }
        makeEdit(maker, Op.of(INSERT, p, character, client), false);
        return maker.pendingCount();
    }

    public int erase(int client, int p)
            throws IllegalArgumentException, IndexOutOfBoundsException, IllegalStateException {
        if (!isClient(client)) {
            throw new IllegalArgumentException();
        }
        Client maker = clients[client];
        if (!maker.text.has(p)) {
            throw new IndexOutOfBoundsException();
        }
        if (maker.hasMostPending()) {
            throw new IllegalStateException();
        }
        makeEdit(maker, Op.of(ERASE, p, 0, client), false);
        return maker.pendingCount();
    }

    public int undo(int client)
            throws IllegalArgumentException, NoSuchElementException, IllegalStateException {
        if (!isClient(client)) {
            throw new IllegalArgumentException();
        }
        Client maker = clients[client];
        int place = maker.log.latestToUndo();
        if (place == NONE) {
            throw new NoSuchElementException();
        }
        if (maker.isFull()) {
            throw new IllegalStateException();
        }
        int back = maker.log.takeBack(place);
        if (Op.kindOf(back) == NOTHING) {
            return 0;
        }
        makeEdit(maker, back, true);
        return 1;
    }

    public int length(int side) {
        if (!isSide(side) || isDown(side)) {
            return NONE;
        }
        return textOf(side).size();
    }

    public int character(int side, int p)
            throws IllegalArgumentException, IllegalStateException, IndexOutOfBoundsException {
        if (!isSide(side)) {
            throw new IllegalArgumentException();
        }
        if (isDown(side)) {
            throw new IllegalStateException();
        }
        Text text = textOf(side);
        if (!text.has(p)) {
            throw new IndexOutOfBoundsException();
        }
        return text.at(p);
    }

    public int revision(int side) {
        if (!isSide(side)) {
            return NONE;
        }
        return side == SERVER ? server.written() : clients[side].known();
    }

    public int pending(int client) {
        return isClient(client) ? clients[client].pendingCount() : NONE;
    }

    public int op(int i, int what) {
        if (!server.hasWritten(i)) {
            return NONE;
        }
        int op = server.opAt(i);
        switch (what) {
            case 0:
                return Op.kindOf(op);
            case 1:
                return Op.positionOf(op);
            case 2:
                return Op.characterOf(op);
            case 3:
                return Op.siteOf(op);
            case 4:
                return server.numberAt(i);
            default:
                return NONE;
        }
    }

    public int waiting() {
        return line.size();
    }

    public int message(int k, int what) {
        if (!line.has(k)) {
            return NONE;
        }
        switch (what) {
            case 0:
                return line.kindAt(k);
            case 1:
                return line.clientAt(k);
            case 2:
                return line.revisionAt(k);
            case 3:
                return line.numberAt(k);
            case 4:
                return line.isWhole(k) ? 1 : 0;
            default:
                return NONE;
        }
    }

    public int deliver(int k) {
        if (!line.has(k)) {
            return NONE;
        }
        boolean whole = line.isWhole(k);
        int kind = line.kindAt(k);
        int client = line.clientAt(k);
        int revision = line.revisionAt(k);
        int number = line.numberAt(k);
        int op = line.opAt(k);
        // Out first: what the message brings about may need its place in the row.
        line.takeOut(k);
        if (!whole) {
            return DAMAGED;
        }
        if (kind == NEWS) {
            getNews(clients[client], revision, op);
        } else if (server.isUp()) {
            if (kind == EDIT) {
                getEdit(client, revision, op, number);
            } else {
                sendNewsFrom(revision, client);
            }
        }
        return kind;
    }

    public boolean lose(int k) {
        if (!line.has(k)) {
            return false;
        }
        line.takeOut(k);
        return true;
    }

    public boolean repeat(int k) {
        if (!line.has(k) || line.isFull()) {
            return false;
        }
        line.sendCopy(k);
        return true;
    }

    public boolean harm(int k, int x) {
        if (!line.has(k)) {
            return false;
        }
        line.changeMark(k, x);
        return true;
    }

    public void tick() {
        for (int i = 0; i < CLIENTS; i++) {
            sendAgain(clients[i]);
        }
    }

    public boolean connect(int client, boolean on) {
        if (!isClient(client) || clients[client].isOn() == on) {
            return false;
        }
        clients[client].turn(on);
        if (on) {
            sendAgain(clients[client]);
        }
        return true;
    }

    public boolean trip(int how) {
        if (how < NO_TRIP || how > TRIP_WHEN_WRITTEN) {
            return false;
        }
        server.setTrip(how);
        return true;
    }

    public boolean crash() {
        if (!server.isUp()) {
            return false;
        }
        server.goDown();
        return true;
    }

    public boolean restart() {
        if (server.isUp()) {
            return false;
        }
        server.comeUp();
        return true;
    }

    private static boolean isClient(int client) {
        return client >= 0 && client < CLIENTS;
    }

    private static boolean isSide(int side) {
        return isClient(side) || side == SERVER;
    }

    private boolean isDown(int side) {
        return side == SERVER && !server.isUp();
    }

    private Text textOf(int side) {
        return side == SERVER ? server.text : clients[side].text;
    }

    private void makeEdit(Client maker, int op, boolean byUndo) {
        maker.make(op, byUndo);
        if (maker.pendingCount() == 1) {
            sendEdit(maker);
        }
    }

    private void sendAgain(Client from) {
        if (from.pendingCount() > 0) {
            sendEdit(from);
        } else {
            sendAsk(from);
        }
    }

    private void sendEdit(Client from) {
        if (from.isOn()) {
            line.send(EDIT, from.site, from.known(), from.firstPending(), from.firstNumber());
        }
    }

    private void sendAsk(Client from) {
        if (from.isOn()) {
            line.send(ASK, from.site, from.known(), Op.nothingOf(from.site), 0);
        }
    }

    private void sendNews(int place, int to) {
        line.send(NEWS, to, place, server.opAt(place), server.numberAt(place));
    }

    private void sendNewsToAll(int place) {
        for (int to = 0; to < CLIENTS; to++) {
            sendNews(place, to);
        }
    }

    private void sendNewsFrom(int revision, int to) {
        for (int place = revision; place < server.written(); place++) {
            sendNews(place, to);
        }
    }

    private void getEdit(int client, int revision, int op, int number) {
        int due = server.countOf(client);
        if (number < due) {
            sendNewsFrom(revision, client);
            return;
        }
        if (number > due || server.isFull()) {
            return;
        }
        int place = server.written();
        if (server.enter(server.movedFrom(revision, op), number)) {
            sendNewsToAll(place);
        }
    }

    private void getNews(Client to, int place, int op) {
        if (!to.isOn() || place != to.known()) {
            return;
        }
        if (Op.siteOf(op) != to.site) {
            to.getOther(op);
            return;
        }
        to.getOwnBack();
        if (to.pendingCount() > 0) {
            sendEdit(to);
        }
    }

    /**
     * An op is one number: what it does in two bits, its site in two, its character in seven (0 if
     * it is no INSERT), and above these its position. So ops are kept and sent without objects.
     */
    private static final class Op {
        private static final int SITE_SHIFT = 2;
        private static final int CHARACTER_SHIFT = 4;
        private static final int POSITION_SHIFT = 11;
        private static final int TWO_BITS = 3;
        private static final int SEVEN_BITS = 127;

        static int of(int kind, int position, int character, int site) {
            return kind | (site << SITE_SHIFT) | (character << CHARACTER_SHIFT)
                    | (position << POSITION_SHIFT);
        }

        static int nothingOf(int site) {
            return of(NOTHING, 0, 0, site);
        }

        static int kindOf(int op) {
            return op & TWO_BITS;
        }

        static int siteOf(int op) {
            return (op >> SITE_SHIFT) & TWO_BITS;
        }

        static int characterOf(int op) {
            return (op >> CHARACTER_SHIFT) & SEVEN_BITS;
        }

        static int positionOf(int op) {
            return op >> POSITION_SHIFT;
        }

        static int moved(int a, int b) {
            if (kindOf(a) == NOTHING || kindOf(b) == NOTHING || positionOf(a) < positionOf(b)) {
                return a;
            }
            return kindOf(b) == INSERT ? movedOverInsert(a, b) : movedOverErase(a, b);
        }

        private static int movedOverInsert(int a, int b) {
            boolean bothAtOnePlace = kindOf(a) == INSERT && positionOf(a) == positionOf(b);
            return bothAtOnePlace && siteOf(a) < siteOf(b) ? a : shifted(a, 1);
        }

        private static int movedOverErase(int a, int b) {
            if (positionOf(a) > positionOf(b)) {
                return shifted(a, -1);
            }
            return kindOf(a) == INSERT ? a : nothingOf(siteOf(a));
        }

        private static int shifted(int op, int by) {
            return of(kindOf(op), positionOf(op) + by, characterOf(op), siteOf(op));
        }
    }

    /** A row of characters to which ops are done. */
    private static final class Text {
        private final int[] characters = new int[MOST_DONE];
        private int count = 0;

        int size() {
            return count;
        }

        boolean has(int p) {
            return p >= 0 && p < count;
        }

        int at(int p) {
            return has(p) ? characters[p] : 0;
        }

        void empty() {
            count = 0;
        }

        /** Answers the character that came or went, for whoever wants to take the op back. */
        int perform(int op) {
            int position = Op.positionOf(op);
            switch (Op.kindOf(op)) {
                case INSERT:
                    putIn(position, Op.characterOf(op));
                    return Op.characterOf(op);
                case ERASE:
                    int gone = at(position);
                    takeOff(position);
                    return gone;
                default:
                    return 0;
            }
        }

        private void putIn(int p, int character) {
            if (p < 0 || p > count || count >= MOST_DONE) {
                return;
            }
            System.arraycopy(characters, p, characters, p + 1, count - p);
            characters[p] = character;
            count++;
        }

        private void takeOff(int p) {
            if (!has(p)) {
                return;
            }
            System.arraycopy(characters, p + 1, characters, p, count - p - 1);
            count--;
        }
    }

    /** All ops that were done to a client's text, each as it was when it was done. */
    private static final class Log {
        private final int[] ops = new int[MOST_DONE];
        // Also of an ERASE, which does not bear its character itself.
        private final int[] characters = new int[MOST_DONE];
        private final boolean[] toUndo = new boolean[MOST_DONE];
        private int count = 0;

        void add(int op, int character, boolean canBeUndone) {
            if (count >= MOST_DONE) {
                return;
            }
            ops[count] = op;
            characters[count] = character;
            toUndo[count] = canBeUndone;
            count++;
        }

        int latestToUndo() {
            for (int place = count - 1; place >= 0; place--) {
                if (toUndo[place]) {
                    return place;
                }
            }
            return NONE;
        }

        /** The edit counts as undone; answers the op that takes it back, as it is due now. */
        int takeBack(int place) {
            toUndo[place] = false;
            int back = inverse(place);
            for (int later = place + 1; later < count; later++) {
                back = Op.moved(back, ops[later]);
            }
            return back;
        }

        private int inverse(int place) {
            int position = Op.positionOf(ops[place]);
            int site = Op.siteOf(ops[place]);
            if (Op.kindOf(ops[place]) == INSERT) {
                return Op.of(ERASE, position, 0, site);
            }
            return Op.of(INSERT, position, characters[place], site);
        }
    }

    /** A client's copy of the text, and its edits that did not come back yet. */
    private static final class Client {
        final int site;
        final Text text = new Text();
        final Log log = new Log();
        private final int[] pendingEdits = new int[MOST_PENDING];
        private int pendingSize = 0;
        private int gotBack = 0;
        private int knownOps = 0;
        private boolean on = true;

        Client(int site) {
            this.site = site;
        }

        int known() {
            return knownOps;
        }

        boolean isOn() {
            return on;
        }

        void turn(boolean toOn) {
            on = toOn;
        }

        int pendingCount() {
            return pendingSize;
        }

        int firstPending() {
            return pendingEdits[0];
        }

        int firstNumber() {
            return gotBack;
        }

        boolean hasMostPending() {
            return pendingSize >= MOST_PENDING;
        }

        boolean isFull() {
            return hasMostPending() || text.size() >= FULL_TEXT;
        }

        void make(int op, boolean byUndo) {
            if (hasMostPending()) {
                return;
            }
            log.add(op, text.perform(op), !byUndo);
            pendingEdits[pendingSize] = op;
            pendingSize++;
        }

        void getOwnBack() {
            knownOps++;
            if (pendingSize == 0) {
                return;
            }
            System.arraycopy(pendingEdits, 1, pendingEdits, 0, pendingSize - 1);
            pendingSize--;
            gotBack++;
        }

        void getOther(int op) {
            knownOps++;
            int coming = op;
            for (int i = 0; i < pendingSize; i++) {
                int edit = pendingEdits[i];
                pendingEdits[i] = Op.moved(edit, coming);
                coming = Op.moved(coming, edit);
            }
            log.add(coming, text.perform(coming), false);
        }
    }

    /**
     * The server's text, and its journal. While the server is up, its history is what stands in
     * the journal, op for op, so there is no second row for it. The author of an op is its site.
     */
    private static final class Server {
        final Text text = new Text();
        private final int[] ops = new int[MOST_IN_HISTORY];
        private final int[] numbers = new int[MOST_IN_HISTORY];
        private int count = 0;
        private boolean up = true;
        private int tripWhen = NO_TRIP;

        int written() {
            return count;
        }

        boolean hasWritten(int place) {
            return place >= 0 && place < count;
        }

        boolean isFull() {
            return count >= MOST_IN_HISTORY;
        }

        int opAt(int place) {
            return ops[place];
        }

        int numberAt(int place) {
            return numbers[place];
        }

        boolean isUp() {
            return up;
        }

        void setTrip(int how) {
            tripWhen = how;
        }

        void goDown() {
            up = false;
        }

        void comeUp() {
            up = true;
            tripWhen = NO_TRIP;
            text.empty();
            for (int place = 0; place < count; place++) {
                text.perform(ops[place]);
            }
        }

        int countOf(int author) {
            int found = 0;
            for (int place = 0; place < count; place++) {
                if (Op.siteOf(ops[place]) == author) {
                    found++;
                }
            }
            return found;
        }

        int movedFrom(int revision, int op) {
            int moving = op;
            for (int place = revision; place < count; place++) {
                moving = Op.moved(moving, ops[place]);
            }
            return moving;
        }

        /** Answers whether the server is still up with the op in its history. */
        boolean enter(int op, int number) {
            if (tripWhen == TRIP_BEFORE_WRITING) {
                goDown();
                return false;
            }
            write(op, number);
            if (tripWhen == TRIP_WHEN_WRITTEN) {
                goDown();
                return false;
            }
            text.perform(op);
            return true;
        }

        private void write(int op, int number) {
            if (isFull()) {
                return;
            }
            ops[count] = op;
            numbers[count] = number;
            count++;
        }
    }

    /** The messages that wait, first to last, a row of parts each. */
    private static final class Line {
        private static final int KIND = 0;
        private static final int CLIENT = 1;
        private static final int REVISION = 2;
        private static final int NUMBER = 3;
        private static final int OP = 4;
        // How far the mark is from the right one: what the right one is never matters.
        private static final int MARK_OFF = 5;
        private static final int PARTS = 6;
        private static final int MARK_BITS = 255;

        private final int[][] messages = new int[MOST_WAITING][PARTS];
        private int count = 0;

        int size() {
            return count;
        }

        boolean has(int k) {
            return k >= 0 && k < count;
        }

        boolean isFull() {
            return count >= MOST_WAITING;
        }

        int kindAt(int k) {
            return messages[k][KIND];
        }

        int clientAt(int k) {
            return messages[k][CLIENT];
        }

        int revisionAt(int k) {
            return messages[k][REVISION];
        }

        int numberAt(int k) {
            return messages[k][NUMBER];
        }

        int opAt(int k) {
            return messages[k][OP];
        }

        boolean isWhole(int k) {
            return messages[k][MARK_OFF] == 0;
        }

        void changeMark(int k, int x) {
            messages[k][MARK_OFF] ^= x & MARK_BITS;
        }

        void send(int kind, int client, int revision, int op, int number) {
            if (isFull()) {
                return;
            }
            int[] last = messages[count];
            last[KIND] = kind;
            last[CLIENT] = client;
            last[REVISION] = revision;
            last[NUMBER] = number;
            last[OP] = op;
            last[MARK_OFF] = 0;
            count++;
        }

        void sendCopy(int k) {
            if (isFull()) {
                return;
            }
            copy(k, count);
            count++;
        }

        void takeOut(int k) {
            for (int i = k + 1; i < count; i++) {
                copy(i, i - 1);
            }
            count--;
        }

        private void copy(int from, int to) {
            System.arraycopy(messages[from], 0, messages[to], 0, PARTS);
        }
    }
}
