/**
 * A JointText that counts its calls: the document promises nothing behind the 512th, so a test that
 * goes further would ask for what is free.
 */
final class CountedText {
    static final int MOST_CALLS = 512;

    private final JointText text = new JointText();
    private int calls = 0;

    private JointText counted() {
        calls++;
        if (calls > MOST_CALLS) {
            throw new AssertionError("a test uses one object for more than 512 calls");
        }
        return text;
    }

    int callsLeft() {
        return MOST_CALLS - calls;
    }

    int insert(int client, int p, int character) {
        return counted().insert(client, p, character);
    }

    int erase(int client, int p) {
        return counted().erase(client, p);
    }

    int undo(int client) {
        return counted().undo(client);
    }

    int length(int side) {
        return counted().length(side);
    }

    int character(int side, int p) {
        return counted().character(side, p);
    }

    int revision(int side) {
        return counted().revision(side);
    }

    int pending(int client) {
        return counted().pending(client);
    }

    int op(int i, int what) {
        return counted().op(i, what);
    }

    int waiting() {
        return counted().waiting();
    }

    int message(int k, int what) {
        return counted().message(k, what);
    }

    int deliver(int k) {
        return counted().deliver(k);
    }

    boolean lose(int k) {
        return counted().lose(k);
    }

    boolean repeat(int k) {
        return counted().repeat(k);
    }

    boolean harm(int k, int x) {
        return counted().harm(k, x);
    }

    void tick() {
        counted().tick();
    }

    boolean connect(int client, boolean on) {
        return counted().connect(client, on);
    }

    boolean trip(int how) {
        return counted().trip(how);
    }

    boolean crash() {
        return counted().crash();
    }

    boolean restart() {
        return counted().restart();
    }
}
