import java.util.concurrent.Callable;

/** What all tests share: comparing an answer with the one that is due, and ways to play a run. */
final class Check {
    static final int SERVER = 3;
    private static int wrong = 0;

    private Check() { }

    static void same(String what, Object got, Object due) {
        if (!due.equals(got)) {
            wrong++;
            System.out.println(what + " answered " + got + ", due is " + due);
        }
    }

    static void fails(String what, Class<? extends Exception> due, Callable<?> call) {
        String got;
        try {
            got = String.valueOf(call.call());
        } catch (Exception e) {
            got = e.getClass().getSimpleName();
        }
        same(what, got, due.getSimpleName());
    }

    static void finish() {
        System.out.println(wrong == 0 ? "all as due" : wrong + " not as due");
        if (wrong != 0) {
            System.exit(1);
        }
    }

    static String text(JointText x, int side) {
        StringBuilder text = new StringBuilder();
        for (int p = 0; p < x.length(side); p++) {
            text.append((char) x.character(side, p));
        }
        return x.length(side) < 0 ? "none" : text.toString();
    }

    static void texts(String what, JointText x, String due) {
        for (int side = 0; side <= SERVER; side++) {
            same(what + ": text of " + side, text(x, side), due);
        }
    }

    /** All five answers of op or of message, joined. */
    static String op(JointText x, int i) {
        return x.op(i, 0) + " " + x.op(i, 1) + " " + x.op(i, 2) + " " + x.op(i, 3) + " " + x.op(i, 4);
    }

    static String message(JointText x, int k) {
        return x.message(k, 0) + " " + x.message(k, 1) + " " + x.message(k, 2) + " "
                + x.message(k, 3) + " " + x.message(k, 4);
    }

    /** All that can be seen of an object, to tell whether a refused call left it as it was. */
    static String all(JointText x) {
        StringBuilder seen = new StringBuilder();
        for (int side = 0; side <= SERVER; side++) {
            seen.append('[').append(text(x, side)).append(' ').append(x.revision(side)).append(' ')
                    .append(x.pending(side)).append(']');
        }
        for (int i = 0; i < x.revision(SERVER); i++) {
            seen.append('(').append(op(x, i)).append(')');
        }
        for (int k = 0; k < x.waiting(); k++) {
            seen.append('<').append(message(x, k)).append('>');
        }
        return seen.toString();
    }

    /** Delivers from the front until nothing waits. */
    static void drain(JointText x) {
        for (int i = 0; i < 10_000 && x.waiting() > 0; i++) {
            x.deliver(0);
        }
    }

    /** Types a text at the end of a client's text, and delivers everything after each character. */
    static void type(JointText x, int client, String text) {
        for (int i = 0; i < text.length(); i++) {
            x.insert(client, x.length(client), text.charAt(i));
            drain(x);
        }
    }

    static void loseAll(JointText x) {
        while (x.waiting() > 0) {
            x.lose(0);
        }
    }
}
