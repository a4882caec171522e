import java.util.concurrent.Callable;

/** What all tests share: comparing an answer with the one that is due, and ways to play a run. */
final class Check {
    static final int SERVER = 3;
    static final String ARGUMENT = "IllegalArgumentException";
    static final String INDEX = "IndexOutOfBoundsException";
    static final String STATE = "IllegalStateException";
    static final String ELEMENT = "NoSuchElementException";

    private static int wrong = 0;

    private Check() { }

    static void same(String what, Object got, Object due) {
        if (!due.equals(got)) {
            wrong++;
            System.out.println(what + " answered " + got + ", due is " + due);
        }
    }

    /** What a call answers, or the name of the exception that it throws. */
    static Object answer(Callable<?> call) {
        try {
            return call.call();
        } catch (Exception e) {
            return e.getClass().getSimpleName();
        }
    }

    static void fails(String what, String due, Callable<?> call) {
        same(what, answer(call), due);
    }

    static void finish() {
        System.out.println(wrong == 0 ? "all as due" : wrong + " not as due");
        if (wrong != 0) {
            System.exit(1);
        }
    }

    static String text(CountedText x, int side) {
        StringBuilder text = new StringBuilder();
        int length = x.length(side);
        for (int p = 0; p < length; p++) {
            text.append((char) x.character(side, p));
        }
        return length < 0 ? "none" : text.toString();
    }

    static void texts(String what, CountedText x, String due) {
        for (int side = 0; side <= SERVER; side++) {
            same(what + ": text of " + side, text(x, side), due);
        }
    }

    /** All five answers of op or of message, joined. */
    static String op(CountedText x, int i) {
        return x.op(i, 0) + " " + x.op(i, 1) + " " + x.op(i, 2) + " " + x.op(i, 3) + " " + x.op(i, 4);
    }

    static String message(CountedText x, int k) {
        return x.message(k, 0) + " " + x.message(k, 1) + " " + x.message(k, 2) + " "
                + x.message(k, 3) + " " + x.message(k, 4);
    }

    /** All that can be seen of an object at once, if there is little to see. */
    static String all(CountedText x) {
        StringBuilder seen = new StringBuilder();
        for (int side = 0; side <= SERVER; side++) {
            seen.append('[').append(text(x, side)).append(' ').append(x.revision(side)).append(' ')
                    .append(x.pending(side)).append(']');
        }
        int ops = x.revision(SERVER);
        for (int i = 0; i < ops; i++) {
            seen.append('(').append(op(x, i)).append(')');
        }
        return seen.append(messages(x)).toString();
    }

    static String messages(CountedText x) {
        StringBuilder seen = new StringBuilder();
        int waiting = x.waiting();
        for (int k = 0; k < waiting; k++) {
            seen.append('<').append(message(x, k)).append('>');
        }
        return seen.toString();
    }

    /** Delivers from the front until nothing waits. */
    static void drain(CountedText x) {
        while (x.deliver(0) != -1) {
            continue;
        }
    }

    /**
     * A client writes characters at the end of its text, from that length to that length, and each
     * gets to all. Nothing may wait before; it takes five calls a character and no more.
     */
    static void fill(CountedText x, int client, int from, int to) {
        for (int length = from; length < to; length++) {
            x.insert(client, length, 'a' + length % 26);
            deliver(x, 4);
        }
    }

    /** Delivers the first message that many times. */
    static void deliver(CountedText x, int times) {
        for (int i = 0; i < times; i++) {
            x.deliver(0);
        }
    }

    /** What fill writes. */
    static String filled(int length) {
        return "abcdefghijklmnopqrstuvwxyz".repeat(3).substring(0, length);
    }

    /** Types a text at the end of a client's text, and delivers everything after each character. */
    static void type(CountedText x, int client, String text) {
        for (int i = 0; i < text.length(); i++) {
            x.insert(client, x.length(client), text.charAt(i));
            drain(x);
        }
    }

    static void loseAll(CountedText x) {
        while (x.lose(0)) {
            continue;
        }
    }

    static void loseAllBut(CountedText x, int first) {
        while (x.lose(first + 1)) {
            continue;
        }
    }
}
