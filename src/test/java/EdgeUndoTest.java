/**
 * Section 4 (UNDO), EXCEPTIONS and promises 1, 59 and 60: a test for each sentence that names a boundary
 * case. The sentence stands above its test. Which calls are refused is in RefusalTest.
 */
final class EdgeUndoTest {
    private static final String TEXT = "band 0 rate 1;rebate 2 percent 10;lay free 2 rate 7;ship a tons 100;ship b tons 9;"
            + "call a 0 to 4 waste 11;call b 0 to 4 waste 11;";

    private EdgeUndoTest() {
    }

    public static void main(String[] args) {
        emptyLedger();
        nothingToUndo();
        sixAreKept();
        everyKindIsKept();
        nothingMadeOrChanged();
        failedLoads();
        loadsInBetween();
        buffersAndErrorStay();
        backToTheBeginning();
        rowsUsedInBetween();
        everythingComesBack();
        Check.finish();
    }

    // "Before the first successful load() there is nothing, the mode is slices, waste and lay are as without their
    // statements. Today is day 0 at first"; a new object: "an empty ledger, with empty buffers"
    private static void emptyLedger() {
        Dues fresh = new Dues();
        Dues broken = new Dues();
        Check.load(broken, TEXT + "x");
        for (Dues x : new Dues[] {fresh, broken}) {
            for (int what = 0; what <= 8; what++) {
                Check.due("count(" + what + ")", x.count(what), 0);
            }
            int[] tariff = {0, 0, 0, 0, 30, 0};
            for (int what = 0; what < tariff.length; what++) {
                Check.due("tariff(" + what + ")", x.tariff(what), tariff[what]);
            }
            for (int tons : new int[] {0, 9999}) {
                Check.due("bandOf(" + tons + ")", x.bandOf(tons), PortDues.NONE);
                Check.due("dues(" + tons + ")", x.dues(tons), 0);
            }
            for (int waste : new int[] {0, 999}) {
                Check.due("wasteFee(" + waste + ")", x.wasteFee(waste), 0);
            }
            for (int year = 0; year <= 9; year++) {
                for (int line = 0; line <= 3; line++) {
                    Check.due("revenue(" + year + ", " + line + ")", x.revenue(year, line), 0);
                }
            }
            Check.due("overdue(0)", x.overdue(0), 0);
            Check.due("overdue(3599)", x.overdue(3599), 0);
            Check.due("staleCount", x.staleCount(), 0);
            Check.due("undoCount", x.undoCount(), 0);
            Check.due("the input buffer", Check.inputLength(x), 0);
            Check.due("the output buffer", Check.rest(x), "");
            Check.due("find", x.find(), PortDues.NONE);
        }
        Check.due("errorCode", fresh.errorCode(), 0);
        Check.due("errorPosition", fresh.errorPosition(), PortDues.NONE);
    }

    // undo: "IllegalStateException if there is nothing to undo"; undoCount: "how many calls can be undone"
    private static void nothingToUndo() {
        Dues x = new Dues();
        Check.dueRefused(x, "undo of a new object", Check.STATE, x::undo);
        Check.load(x, TEXT);
        Check.due("one call", x.undoCount(), 1);
        Check.due("undo of it", x.undo(), 0);
        Check.due("none is left", x.undoCount(), 0);
        Check.dueRefused(x, "undo once more", Check.STATE, x::undo);
        x.setLay(1, 1);
        Check.due("undo of another one", x.undo(), 0);
        Check.dueRefused(x, "undo cannot be undone", Check.STATE, x::undo);
    }

    // "the last 6 are kept"; undo: "Returns how many calls can still be undone."
    private static void sixAreKept() {
        for (int calls = 0; calls <= 20; calls++) {
            Dues x = new Dues();
            for (int i = 1; i <= calls; i++) {
                x.advance(i);
                Check.due("undoCount", x.undoCount(), Math.min(i, 6));
            }
            int day = x.count(5);
            for (int i = 0; i < Math.min(calls, 6); i++) {
                Check.due("undo", x.undo(), Math.min(calls, 6) - 1 - i);
                day -= calls - i;
                Check.due("today", x.count(5), day);
            }
            Check.dueRefused(x, "undo of the seventh", Check.STATE, x::undo);
            // Behind that there is room for six again.
            for (int i = 1; i <= 7; i++) {
                x.advance(1);
                Check.due("undoCount", x.undoCount(), Math.min(i, 6));
            }
        }
        // Some are undone, and others come in their place.
        Dues y = new Dues();
        for (int i = 0; i < 6; i++) {
            y.advance(10);
        }
        y.undo();
        y.undo();
        y.advance(1);
        Check.due("undoCount", y.undoCount(), 5);
        y.advance(1);
        Check.due("undoCount", y.undoCount(), 6);
        y.advance(1);
        Check.due("undoCount", y.undoCount(), 6);
        int[] days = {42, 41, 40, 30, 20, 10};
        for (int day : days) {
            y.undo();
            Check.due("today", y.count(5), day);
        }
        Check.dueRefused(y, "undo of what is not kept", Check.STATE, y::undo);
    }

    private interface Change {
        void make(Dues x);
    }

    private static final String[] NAMES = {"load", "addCall", "cancel", "setWaste", "setTons", "bill", "billAll", "credit",
        "dispute", "settle", "pay", "advance", "setRate", "setPercent", "setLay"};

    private static final Change[] CHANGES = {x -> Check.load(x, "slab;ship z tons 3;"), x -> x.addCall(0, 3599, 3628, 999),
        x -> x.cancel(2), x -> x.setWaste(0, 999), x -> x.setTons(1, 9999), x -> x.bill(1), x -> x.billAll(0),
        x -> x.credit(0, 15), x -> x.dispute(0, 4), x -> x.settle(0, 3, true), x -> x.pay(0, 1000000000), x -> x.advance(3600),
        x -> x.setRate(0, 999), x -> x.setPercent(0, 100), x -> x.setLay(30, 9999)};

    private static Dues prepared() {
        Dues x = Check.loaded(TEXT);
        x.addCall(0, 400, 400, 0);
        x.dispute(0, 3);
        x.bill(0);
        return x;
    }

    // "Each successful load(), and each call of addCall(), ... setLay() that does not throw can be undone"
    private static void everyKindIsKept() {
        for (int i = 0; i < CHANGES.length; i++) {
            Dues x = prepared();
            CHANGES[i].make(x);
            Check.due("undoCount behind " + NAMES[i], x.undoCount(), 5);
            Check.due("undo of " + NAMES[i], x.undo(), 4);
            Check.due("all behind undo of " + NAMES[i], Check.whole(x), Check.whole(prepared()));
            Dues y = prepared();
            CHANGES[i].make(y);
            Check.due(NAMES[i] + " has changed something", Check.rows(y).equals(Check.rows(prepared())), false);
            for (int j = 0; j < CHANGES.length; j++) {
                two(i, j);
            }
        }
    }

    /** Two changes, one behind the other, and both undone. */
    private static void two(int i, int j) {
        Dues x = prepared();
        String before = Check.rows(x);
        CHANGES[i].make(x);
        String between = Check.rows(x);
        String thrown = Check.thrownBy(() -> CHANGES[j].make(x));
        boolean made = thrown.equals("nothing");
        Check.due("undoCount behind " + NAMES[i] + " and " + NAMES[j], x.undoCount(), made ? 6 : 5);
        if (made) {
            x.undo();
        }
        Check.due("between " + NAMES[i] + " and " + NAMES[j], Check.rows(x), between);
        x.undo();
        Check.due("before " + NAMES[i] + " and " + NAMES[j], Check.rows(x), before);
    }

    // "(also if it made or changed nothing)"
    private static void nothingMadeOrChanged() {
        String[] names = {"billAll", "setWaste", "setTons", "setRate", "setPercent", "setLay", "load"};
        Change[] changes = {x -> x.billAll(1), x -> x.setWaste(0, 11), x -> x.setTons(0, 100), x -> x.setRate(0, 1),
            x -> x.setPercent(0, 10), x -> x.setLay(2, 7), x -> Check.load(x, TEXT)};
        for (int i = 0; i < changes.length; i++) {
            Dues x = Check.loaded(TEXT);
            x.billAll(1);
            changes[i].make(x);
            Check.due("undoCount behind " + names[i], x.undoCount(), 3);
            Check.due("undo of " + names[i], x.undo(), 2);
            Check.due("the version", x.count(4), 0);
            Check.due("the invoice stays", x.count(2), 1);
        }
    }

    // "Each successful load()": one with an error is none
    private static void failedLoads() {
        Dues x = new Dues();
        x.advance(5);
        for (String text : new String[] {"", "x", "slab;slab;", "band 1 rate 1;", TEXT + ";"}) {
            Check.load(x, text);
            Check.due("undoCount", x.undoCount(), 1);
        }
        Check.due("today stays", x.count(5), 5);
        x.undo();
        Check.due("today", x.count(5), 0);
        Check.dueRefused(x, "undo once more", Check.STATE, x::undo);
    }

    // A load() is one of the six like each other change, and what was before it can be undone, too.
    private static void loadsInBetween() {
        Dues x = Check.loaded(TEXT);
        x.pay(0, 1);
        x.setRate(0, 5);
        Check.load(x, "ship z tons 3;");
        x.advance(7);
        Check.load(x, "slab;");
        Check.due("undoCount", x.undoCount(), 6);
        x.advance(1);
        Check.due("undoCount", x.undoCount(), 6);
        x.undo();
        Check.due("the mode", x.tariff(0), 1);
        Check.due("today", x.count(5), 0);
        x.undo();
        Check.due("the mode", x.tariff(0), 0);
        Check.due("today", x.count(5), 7);
        Check.due("the ship", Check.find(x, "z"), 0);
        x.undo();
        Check.due("today", x.count(5), 0);
        x.undo();
        Check.due("ships", x.count(0), 2);
        Check.due("the version", x.count(4), 1);
        Check.due("dues", x.dues(10), 50);
        x.undo();
        Check.due("dues", x.dues(10), 10);
        Check.due("paid", x.paid(0), 1);
        x.undo();
        Check.due("paid", x.paid(0), 0);
        Check.due("ships", x.count(0), 2);
        Check.dueRefused(x, "the first load is not kept", Check.STATE, x::undo);
    }

    // "undo() restores everything except the two buffers and the parse error."
    private static void buffersAndErrorStay() {
        Dues x = Check.loaded(TEXT);
        x.bill(0);
        x.setTons(0, 77);
        int length = x.writeInvoice(0);
        String output = Check.rest(x);
        Check.load(x, "slab;slab;");
        Check.put(x, "ship q tons 1;");
        for (int left = 2; left >= 0; left--) {
            Check.due("undo", x.undo(), left);
            Check.due("the input buffer", Check.inputLength(x), 14);
            Check.due("the output buffer", Check.rest(x), output);
            Check.due("its length", output.length(), length);
            Check.due("errorCode", x.errorCode(), 3);
            Check.due("errorPosition", x.errorPosition(), 5);
        }
        Check.due("nothing is there", x.count(0), 0);
        Check.due("the text in the buffer", x.load(), 1);
        Check.due("the ship", Check.find(x, "q"), 0);
        Check.due("errorCode", x.errorCode(), 0);
        x.undo();
        Check.due("errorCode stays", x.errorCode(), 0);
        Check.due("errorPosition stays", x.errorPosition(), PortDues.NONE);
        Check.due("the output buffer", Check.rest(x), output);
        Check.due("the input buffer does not come back", Check.inputLength(x), 0);
    }

    private static void backToTheBeginning() {
        Dues x = Check.loaded(TEXT);
        x.billAll(0);
        x.undo();
        x.undo();
        Check.due("all is as in a new object", Check.whole(x), Check.whole(new Dues()));
    }

    // "undo() restores everything": rows that another text has used in between, number 0 of each kind, too
    private static void rowsUsedInBetween() {
        Dues x = prepared();
        x.credit(0, 5);
        x.advance(3);
        String before = Check.rows(x);
        Check.load(x, "slab;band 0 rate 9;rebate 3 percent 3;ship q tons 7;call q 9 to 9 waste 9;");
        x.setRate(0, 8);
        x.bill(0);
        x.credit(0, 2);
        for (int i = 0; i < 4; i++) {
            x.undo();
        }
        Check.due("the rows of the first text", Check.rows(x), before);
        Check.due("its first ship", Check.find(x, "a"), 0);
    }

    // "undo() restores everything": each change behind others, and back over the six that are kept
    private static void everythingComesBack() {
        for (int start = 0; start < CHANGES.length; start++) {
            Dues x = prepared();
            String[] states = new String[7];
            int made = 0;
            states[0] = Check.rows(x);
            for (int i = 0; i < CHANGES.length && made < 6; i++) {
                Change change = CHANGES[(start + i * 4) % CHANGES.length];
                if (Check.thrownBy(() -> change.make(x)).equals("nothing")) {
                    made++;
                    states[made] = Check.rows(x);
                }
            }
            for (int i = made - 1; i >= 0; i--) {
                x.undo();
                Check.due("the state " + i + " from " + NAMES[start], Check.rows(x), states[i]);
            }
        }
    }
}
