import java.util.ArrayList;
import java.util.List;

/** What the tests share: answers that are due, exceptions that are due, texts in and out. */
final class Check {
    static final String STATE = "IllegalStateException";
    static final String ARGUMENT = "IllegalArgumentException";
    static final String INDEX = "IndexOutOfBoundsException";

    interface Action {
        void run();
    }

    private static int checks = 0;
    private static int wrong = 0;

    private Check() {
    }

    static void due(String what, long got, long want) {
        checks++;
        if (got != want) {
            report(what + " answered " + got + ", due is " + want);
        }
    }

    static void due(String what, boolean got, boolean want) {
        due(what, got ? 1 : 0, want ? 1 : 0);
    }

    static void due(String what, String got, String want) {
        checks++;
        if (!got.equals(want)) {
            report(what + " answered\n" + got + "\ndue is\n" + want);
        }
    }

    static void dueThrow(String what, String exception, Action action) {
        checks++;
        String got = thrownBy(action);
        if (!got.equals(exception)) {
            report(what + " threw " + got + ", due is " + exception);
        }
    }

    static String thrownBy(Action action) {
        try {
            action.run();
        } catch (RuntimeException e) {
            return e.getClass().getSimpleName();
        }
        return "nothing";
    }

    /** Values just outside of a range, and far outside of it. */
    static int[] outside(int lowest, int highest) {
        return new int[] {lowest - 1, highest + 1, Integer.MIN_VALUE, Integer.MAX_VALUE};
    }

    private static void report(String text) {
        wrong++;
        if (wrong <= 50) {
            System.out.println(text);
        }
    }

    static void finish() {
        System.out.println(checks + " checks, " + wrong + " wrong");
        if (wrong != 0) {
            System.exit(1);
        }
    }

    // ---- texts

    /** Puts a text into the empty input buffer. */
    static void put(PortDues x, String text) {
        byte[] bytes = text.getBytes(java.nio.charset.StandardCharsets.ISO_8859_1);
        int[] words = new int[(bytes.length + 19) / 20 * 5];
        for (int i = 0; i < bytes.length; i++) {
            words[i / 4] |= (bytes[i] & 255) << (24 - i % 4 * 8);
        }
        for (int i = 0; i < words.length; i += 5) {
            x.append(words[i], words[i + 1], words[i + 2], words[i + 3], words[i + 4]);
        }
        x.truncate(bytes.length);
    }

    static int load(PortDues x, String text) {
        put(x, text);
        return x.load();
    }

    static int find(PortDues x, String name) {
        put(x, name);
        return x.find();
    }

    static PortDues loaded(String text) {
        PortDues x = new PortDues();
        if (load(x, text) == PortDues.PARSE_ERROR) {
            report("the text of a test has the error " + x.errorCode() + " at " + x.errorPosition() + ": " + text);
        }
        return x;
    }

    static String output(PortDues x, int length) {
        StringBuilder text = new StringBuilder();
        for (int i = 0; i < length; i++) {
            text.append((char) x.outputByte(i));
        }
        return text.toString();
    }

    static String statement(PortDues x, int ship) {
        return output(x, x.writeStatement(ship));
    }

    static String invoiceSheet(PortDues x, int invoice) {
        return output(x, x.writeInvoice(invoice));
    }

    static String tariffSheet(PortDues x, int version) {
        return output(x, x.writeTariff(version));
    }

    // ---- the whole state, to see that nothing has changed

    static String state(PortDues x) {
        return x.undoCount() + " " + x.errorCode() + " " + x.errorPosition() + " " + rows(x);
    }

    /** All that undo() restores. */
    static String rows(PortDues x) {
        List<Long> values = new ArrayList<>();
        for (int what = 0; what <= 8; what++) {
            values.add((long) x.count(what));
        }
        for (int what = 0; what <= 5; what++) {
            values.add((long) x.tariff(what));
        }
        for (int ship = 0; ship < x.count(0); ship++) {
            values.add((long) x.tons(ship));
            values.add(x.paid(ship));
            values.add(x.balance(ship));
        }
        for (int call = 0; call < x.count(1); call++) {
            for (int what = 0; what <= 7; what++) {
                values.add((long) x.call(call, what));
            }
            values.add((long) x.pending(call));
            values.add((long) x.upheld(call));
        }
        for (int invoice = 0; invoice < x.count(2); invoice++) {
            for (int what = 0; what <= 5; what++) {
                values.add((long) x.invoice(invoice, what));
            }
            for (int line = 0; line <= 3; line++) {
                values.add((long) x.line(invoice, line));
            }
        }
        for (int note = 0; note < x.count(3); note++) {
            for (int what = 0; what <= 3; what++) {
                values.add((long) x.note(note, what));
            }
        }
        StringBuilder text = new StringBuilder(values.toString());
        for (int version = 0; version <= x.count(4); version++) {
            text.append(tariffSheet(x, version));
        }
        return text.toString();
    }

    /** The call throws that exception, and nothing changes. */
    static void dueRefused(PortDues x, String what, String exception, Action action) {
        String before = state(x);
        dueThrow(what, exception, action);
        due("the state behind " + what, state(x), before);
    }
}
