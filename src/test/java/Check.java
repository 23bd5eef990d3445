import java.util.ArrayList;
import java.util.List;

/** What the tests share: answers that are due, exceptions that are due, texts in and out. */
final class Check {
    static final String STATE = "IllegalStateException";
    static final String ARGUMENT = "IllegalArgumentException";
    static final String INDEX = "IndexOutOfBoundsException";

    interface Action {
        void run();
    }

    private static int checks = 0;
    private static int wrong = 0;

    private Check() {
    }

    static void due(String what, long got, long want) {
        checks++;
        if (got != want) {
            report(what + " answered " + got + ", due is " + want);
        }
    }

    static void due(String what, boolean got, boolean want) {
        due(what, got ? 1 : 0, want ? 1 : 0);
    }

    static void due(String what, String got, String want) {
        checks++;
        if (!got.equals(want)) {
            int same = 0;
            while (same < got.length() && same < want.length() && got.charAt(same) == want.charAt(same)) {
                same++;
            }
            report(what + " answered\n" + around(got, same) + "\ndue is\n" + around(want, same));
        }
    }

    /** A long text, only around the place that matters. */
    private static String around(String text, int place) {
        int from = Math.max(place - 200, 0);
        int to = Math.min(place + 200, text.length());
        return (from > 0 ? ".." : "") + text.substring(from, to) + (to < text.length() ? ".." : "");
    }

    static void dueThrow(String what, String exception, Action action) {
        checks++;
        String got = thrownBy(action);
        if (!got.equals(exception)) {
            report(what + " threw " + got + ", due is " + exception);
        }
    }

    static String thrownBy(Action action) {
        try {
            action.run();
        } catch (RuntimeException e) {
            return e.getClass().getSimpleName();
        }
        return "nothing";
    }

    /** Values just outside of a range, and far outside of it. */
    static int[] outside(int lowest, int highest) {
        return new int[] {lowest - 1, highest + 1, Integer.MIN_VALUE, Integer.MAX_VALUE};
    }

    private static void report(String text) {
        wrong++;
        if (wrong <= 50) {
            System.out.println(text);
        }
    }

    static void finish() {
        System.out.println(checks + " checks, " + wrong + " wrong");
        if (wrong != 0) {
            System.exit(1);
        }
    }

    // ---- texts

    /** Puts a text into the empty input buffer. */
    static void put(Dues x, String text) {
        byte[] bytes = text.getBytes(java.nio.charset.StandardCharsets.ISO_8859_1);
        int[] words = new int[(bytes.length + 19) / 20 * 5];
        for (int i = 0; i < bytes.length; i++) {
            words[i / 4] |= (bytes[i] & 255) << (24 - i % 4 * 8);
        }
        for (int i = 0; i < words.length; i += 5) {
            x.append(words[i], words[i + 1], words[i + 2], words[i + 3], words[i + 4]);
        }
        x.truncate(bytes.length);
    }

    static int load(Dues x, String text) {
        put(x, text);
        return x.load();
    }

    static int find(Dues x, String name) {
        put(x, name);
        return x.find();
    }

    static Dues loaded(String text) {
        Dues x = new Dues();
        if (load(x, text) == PortDues.PARSE_ERROR) {
            report("the text of a test has the error " + x.errorCode() + " at " + x.errorPosition() + ": " + text);
        }
        return x;
    }

    static String output(Dues x, int length) {
        StringBuilder text = new StringBuilder();
        for (int i = 0; i < length; i++) {
            text.append((char) x.outputByte(i));
        }
        return text.toString();
    }

    static String statement(Dues x, int ship) {
        return output(x, x.writeStatement(ship));
    }

    static String invoiceSheet(Dues x, int invoice) {
        return output(x, x.writeInvoice(invoice));
    }

    static String tariffSheet(Dues x, int version) {
        return output(x, x.writeTariff(version));
    }

    // ---- the whole state, to see that nothing has changed

    static String state(Dues x) {
        return x.undoCount() + " " + x.errorCode() + " " + x.errorPosition() + " " + rows(x);
    }

    /** All that undo() restores. */
    static String rows(Dues x) {
        List<Long> values = new ArrayList<>();
        for (int what = 0; what <= 8; what++) {
            values.add((long) x.count(what));
        }
        for (int what = 0; what <= 5; what++) {
            values.add((long) x.tariff(what));
        }
        for (int ship = 0; ship < x.count(0); ship++) {
            values.add((long) x.tons(ship));
            values.add(x.paid(ship));
            values.add(x.balance(ship));
        }
        for (int call = 0; call < x.count(1); call++) {
            for (int what = 0; what <= 7; what++) {
                values.add((long) x.call(call, what));
            }
            values.add((long) x.pending(call));
            values.add((long) x.upheld(call));
        }
        for (int invoice = 0; invoice < x.count(2); invoice++) {
            for (int what = 0; what <= 5; what++) {
                values.add((long) x.invoice(invoice, what));
            }
            for (int line = 0; line <= 3; line++) {
                values.add((long) x.line(invoice, line));
            }
        }
        for (int note = 0; note < x.count(3); note++) {
            for (int what = 0; what <= 3; what++) {
                values.add((long) x.note(note, what));
            }
        }
        StringBuilder text = new StringBuilder(values.toString());
        // The first version and the last two ones stand for all: a sheet takes a call for each of its bytes.
        int last = x.count(4);
        for (int version = 0; version <= last; version++) {
            if (version == 0 || version > last - 2) {
                text.append(tariffSheet(x, version));
            }
        }
        return text.toString();
    }

    /** The call throws that exception, and nothing changes. */
    static void dueRefused(Dues x, String what, String exception, Action action) {
        String before = state(x);
        x.tryOut();
        dueThrow(what, exception, action);
        x.endOfTrying();
        due("the state behind " + what, state(x), before);
        x.forgetTried();
    }

    /**
     * All that an object answers, both buffers and what undo() brings back included. The object is
     * used up by it.
     */
    static String whole(Dues x) {
        StringBuilder text = new StringBuilder("output " + rest(x) + "\ninput " + inputLength(x) + "\n" + state(x));
        text.append("\nload ").append(x.load()).append(' ').append(state(x));
        while (x.undoCount() > 0) {
            text.append("\nundo ").append(x.undo()).append(' ').append(state(x));
        }
        return text.toString();
    }

    /** What stands in the output buffer, whoever wrote it. */
    static String rest(Dues x) {
        StringBuilder text = new StringBuilder();
        while (thrownBy(() -> x.outputByte(text.length())).equals("nothing")) {
            text.append((char) x.outputByte(text.length()));
        }
        return text.toString();
    }

    /** append() answers the length; if there is no room for it, truncate() to more than the length throws. */
    static int inputLength(Dues x) {
        int length = 800;
        while (length > 780 && !truncates(x, length)) {
            length--;
        }
        if (length == 780) {
            length = x.append(0, 0, 0, 0, 0) - 20;
            x.truncate(length);
        }
        return length;
    }

    private static boolean truncates(Dues x, int length) {
        return thrownBy(() -> x.truncate(length)).equals("nothing");
    }

    // ---- texts that are parsed

    static void accepted(String text) {
        Dues x = new Dues();
        int ships = load(x, text);
        due("load of " + text, ships >= 0, true);
        due("errorCode of " + text, x.errorCode(), 0);
        due("errorPosition of " + text, x.errorPosition(), PortDues.NONE);
        due("the buffer behind " + text, x.append(0, 0, 0, 0, 0), 20);
    }

    static void refused(String text, int code, int position) {
        Dues x = new Dues();
        due("load of " + text, load(x, text), PortDues.PARSE_ERROR);
        due("errorCode of " + text, x.errorCode(), code);
        due("errorPosition of " + text, x.errorPosition(), position);
        due("undoCount behind " + text, x.undoCount(), 0);
        due("the buffer behind " + text, x.append(0, 0, 0, 0, 0), 20);
    }
}
