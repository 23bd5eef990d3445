/** Promises 59 and 60: what can be undone, how many calls of it, and what comes back. */
final class UndoTest {
    private static final String TEXT = "band 0 rate 2;rebate 2 percent 10;lay free 1 rate 7;ship a tons 150;ship b tons 99;"
            + "call a 10 to 14 waste 12;call a 20 to 25 waste 0;call b 3 to 9 waste 0;";

    private UndoTest() {
    }

    public static void main(String[] args) {
        nothingToUndo();
        eachChange();
        theLastSix();
        loads();
        throwsAndQueriesDoNotCount();
        throughTheRing();
        rowsThatAreUsedAgain();
        rowsOfAnotherText();
        Check.finish();
    }

    private static void nothingToUndo() {
        Dues x = new Dues();
        Check.dueRefused(x, "undo of nothing", Check.STATE, x::undo);
        x.advance(1);
        Check.due("undo", x.undo(), 0);
        Check.dueRefused(x, "undo of nothing more", Check.STATE, x::undo);
    }

    private static Dues prepared() {
        Dues x = Check.loaded(TEXT);
        x.bill(0);
        x.credit(0, 1);
        x.dispute(1, 2);
        x.dispute(1, 3);
        return x;
    }

    private static void eachChange() {
        undone("addCall", x -> x.addCall(0, 1, 1, 1));
        undone("cancel", x -> x.cancel(1));
        undone("setWaste", x -> x.setWaste(1, 77));
        undone("setWaste to the same", x -> x.setWaste(0, 12));
        undone("setTons", x -> x.setTons(0, 77));
        undone("setTons to the same", x -> x.setTons(0, 150));
        undone("bill", x -> x.bill(1));
        undone("billAll", x -> x.billAll(0));
        undone("credit", x -> x.credit(0, 14));
        undone("dispute", x -> x.dispute(0, 2));
        undone("settle in favour", x -> x.settle(1, 2, true));
        undone("settle against", x -> x.settle(1, 3, false));
        undone("pay", x -> x.pay(1, 5));
        undone("advance", x -> x.advance(5));
        undone("setRate", x -> x.setRate(0, 5));
        undone("setRate to the same", x -> x.setRate(0, 2));
        undone("setPercent", x -> x.setPercent(0, 5));
        undone("setLay", x -> x.setLay(0, 5));
        undone("load", x -> Check.load(x, "slab;band 0 rate 1;ship z tons 3;call z 0 to 0 waste 0;"));
        Dues x = Check.loaded("ship a tons 1;");
        Check.due("billAll of nothing", x.billAll(0), 0);
        Check.due("it counts", x.undoCount(), 2);
    }

    private interface Change {
        void make(Dues x);
    }

    private static void undone(String name, Change change) {
        Dues x = prepared();
        String before = Check.state(x);
        String statement = Check.statement(x, 0);
        int count = x.undoCount();
        change.make(x);
        Check.due("undoCount behind " + name, x.undoCount(), count + 1);
        Check.due("undo of " + name, x.undo(), count);
        Check.due("undoCount behind undo of " + name, x.undoCount(), count);
        Check.due("the state behind undo of " + name, Check.state(x), before);
        Check.due("the statement behind undo of " + name, Check.statement(x, 0), statement);
        change.make(x);
        Check.due("undoCount behind " + name + " once more", x.undoCount(), count + 1);
    }

    private static void theLastSix() {
        Dues x = new Dues();
        for (int i = 1; i <= 9; i++) {
            x.advance(1);
            Check.due("undoCount", x.undoCount(), Math.min(i, 6));
        }
        for (int i = 5; i >= 0; i--) {
            Check.due("undo", x.undo(), i);
            Check.due("today", x.count(5), 3 + i);
        }
        Check.dueThrow("undo of the seventh", Check.STATE, x::undo);
        Check.due("today", x.count(5), 3);
    }

    private static void loads() {
        Dues x = Check.loaded(TEXT);
        x.bill(0);
        x.advance(4);
        Check.due("load", Check.load(x, "ship c tons 4;"), 1);
        Check.due("undoCount behind load", x.undoCount(), 4);
        x.setTons(0, 5);
        Check.due("undo of setTons", x.undo(), 4);
        Check.due("undo of load", x.undo(), 3);
        Check.due("invoices", x.count(2), 1);
        Check.due("today", x.count(5), 4);
        Check.due("the names", Check.find(x, "b"), 1);
        Check.due("the new name is gone", Check.find(x, "c"), PortDues.NONE);
        x.undo();
        x.undo();
        Check.due("undo of the first load", x.undo(), 0);
        Check.due("no ship", x.count(0), 0);
        Check.due("lay days as without a statement", x.tariff(4), 30);
        Check.due("no bands", x.bandOf(0), PortDues.NONE);
    }

    private static void throwsAndQueriesDoNotCount() {
        Dues x = prepared();
        Check.dueThrow("bill", Check.STATE, () -> {
            x.bill(0);
            x.bill(0);
        });
        Check.due("only the first one counts", x.undoCount(), 6);
        Dues y = Check.loaded(TEXT);
        y.quote(0, 1, 1, 1);
        y.worth(0);
        y.bestDay(0, 1, 50, 1, 1);
        y.writeTariff(0);
        y.find();
        y.append(0, 0, 0, 0, 0);
        y.truncate(3);
        Check.dueThrow("pay", Check.ARGUMENT, () -> y.pay(0, 0));
        Check.dueThrow("addCall", Check.INDEX, () -> y.addCall(9, 0, 0, 0));
        Check.due("a load with an error", y.load(), PortDues.PARSE_ERROR);
        Check.due("nothing of these counts", y.undoCount(), 1);
        Check.put(y, "ship q tons 1;");
        y.undo();
        Check.due("the input buffer stays behind undo", y.load(), 1);
    }

    /** What an undone or replaced call or invoice had does not come back with the next one of its number. */
    private static void rowsThatAreUsedAgain() {
        Dues x = new Dues();
        String text = "lay free 0 rate 7;ship a tons 150;";
        String freshCall = "";
        String freshInvoice = "";
        for (int i = 0; i < 4; i++) {
            Check.load(x, text);
            x.addCall(0, 3, 9, 4);
            freshCall = i == 0 ? Check.rows(x) : freshCall;
            Check.due("a call in the place of another", Check.rows(x), freshCall);
            x.bill(0);
            freshInvoice = i == 0 ? Check.rows(x) : freshInvoice;
            Check.due("an invoice in the place of another", Check.rows(x), freshInvoice);
            x.credit(0, 15);
            x.pay(0, 5);
            x.dispute(0, 2);
            x.settle(0, 2, true);
            x.dispute(0, 3);
            x.cancel(0);
            Check.due("the pending day of the cancelled call", x.pending(0), 8);
        }
        Check.load(x, text);
        x.addCall(0, 3, 9, 4);
        x.undo();
        x.addCall(0, 3, 9, 4);
        Check.due("a call in the place of an undone one", Check.rows(x), freshCall);
    }

    /** A text that was loaded in between has used the same rows. */
    private static void rowsOfAnotherText() {
        Dues x = Check.loaded(TEXT);
        x.advance(3);
        x.setLay(0, 8);
        x.setRate(0, 3);
        x.billAll(0);
        x.billAll(1);
        x.credit(0, 5);
        x.credit(1, 2);
        x.credit(2, 8);
        x.pay(1, 99);
        x.dispute(1, 5);
        String before = Check.rows(x);
        String sheets = Check.invoiceSheet(x, 0) + Check.invoiceSheet(x, 1) + Check.invoiceSheet(x, 2);
        Check.load(x, "slab;band 0 rate 1;rebate 9 percent 9;ship q tons 3;ship r tons 2;call r 0 to 0 waste 0;"
                + "call q 1 to 1 waste 1;call r 800 to 800 waste 0;waste fixed 9 free 8 price 7;");
        x.setRate(0, 2);
        x.billAll(1);
        x.credit(1, 2);
        x.credit(0, 4);
        x.billAll(0);
        for (int i = 0; i < 6; i++) {
            x.undo();
        }
        Check.due("the rows of the first text", Check.rows(x), before);
        Check.due("its sheets", Check.invoiceSheet(x, 0) + Check.invoiceSheet(x, 1) + Check.invoiceSheet(x, 2), sheets);
        Check.due("its names", Check.find(x, "b"), 1);
    }

    private static void throughTheRing() {
        Dues x = Check.loaded(TEXT);
        for (int round = 0; round < 20; round++) {
            for (int i = 0; i < 1 + round % 6; i++) {
                x.pay(0, 1 + round);
            }
            long paid = x.paid(0);
            for (int i = 0; i < round % 6; i++) {
                x.undo();
            }
            Check.due("paid in round " + round, x.paid(0), paid - (long) (round % 6) * (1 + round));
        }
    }
}
