/** Promises 26 to 39, 49 to 55, 61 and 62: invoices, credit notes, disputes, payments and their sheets. */
final class InvoiceTest {
    private static final String TARIFF = "band 0 rate 2;band 100 rate 3;rebate 2 percent 10;rebate 4 percent 50;"
            + "waste fixed 5 free 10 price 2;lay free 2 rate 7;";
    private static final String TEXT = TARIFF + "ship a tons 150;ship bee tons 99;"
            + "call a 10 to 14 waste 12;call a 20 to 20 waste 0;call bee 370 to 373 waste 30;";

    private InvoiceTest() {
    }

    public static void main(String[] args) {
        bill();
        billLimits();
        billAll();
        invoiceValues();
        credit();
        creditLimit();
        open();
        openWithNegativeNet();
        rebuilt();
        rebuiltByItsVersion();
        staleAndContested();
        dispute();
        settle();
        pay();
        advance();
        overdue();
        revenue();
        statement();
        sheet();
        wrongNumbers();
        Check.finish();
    }

    private static void dueLines(Dues x, int invoice, int... due) {
        for (int line = 0; line < 4; line++) {
            Check.due("line(" + invoice + ", " + line + ")", x.line(invoice, line), due[line]);
        }
    }

    private static void bill() {
        Dues x = Check.loaded(TEXT);
        Check.due("bill(1)", x.bill(1), 0);
        dueLines(x, 0, 350, -35, 5, 0);
        Check.due("it has no lay days", x.invoice(0, 3), 7);
        Check.due("bill(0)", x.bill(0), 1);
        dueLines(x, 1, 350, 0, 9, 21);
        Check.due("its lines", x.invoice(1, 3), 15);
        Check.dueRefused(x, "bill once more", Check.STATE, () -> x.bill(0));
        Check.dueRefused(x, "bill once more without lay days", Check.STATE, () -> x.bill(1));
        x.setLay(1, 4);
        Check.due("a new lay day", x.bill(0), 2);
        Check.due("its lines", x.invoice(2, 3), 8);
        Check.due("its days", x.invoice(2, 5), 2);
        Check.due("its version", x.invoice(2, 2), 1);
        dueLines(x, 2, 0, 0, 0, 4);
        x.credit(1, 9);
        Check.due("credited lines once more", x.bill(0), 3);
        Check.due("its lines", x.invoice(3, 3), 9);
        dueLines(x, 3, 350, 0, 0, 12);
        x.credit(3, 8);
        x.dispute(0, 2);
        x.dispute(0, 3);
        x.settle(0, 3, true);
        Check.due("days that can be billed", x.bill(0), 4);
        Check.due("only they", x.invoice(4, 5), 16);
        x.credit(4, 8);
        x.dispute(0, 4);
        Check.dueRefused(x, "no day is left", Check.STATE, () -> x.bill(0));
        x.cancel(2);
        Check.dueRefused(x, "bill of a cancelled call", Check.STATE, () -> x.bill(2));
        for (int call : Check.outside(0, 2)) {
            Check.dueRefused(x, "bill(" + call + ")", Check.INDEX, () -> x.bill(call));
        }
    }

    private static void billLimits() {
        Dues x = Check.loaded(TARIFF + "ship a tons 150;");
        for (int i = 0; i < 40; i++) {
            x.addCall(0, 3500, 3529, 0);
            x.bill(i);
        }
        x.setLay(1, 9999);
        for (int i = 0; i < 19; i++) {
            Check.due("bill", x.bill(i), 40 + i);
        }
        Check.due("billAll with one place left", x.billAll(0), 1);
        Check.due("60 invoices", x.count(2), 60);
        Check.due("the last one", x.invoice(59, 0), 19);
        Check.dueRefused(x, "bill without room", Check.STATE, () -> x.bill(39));
        Check.due("billAll without room", x.billAll(0), 0);
        Check.due("a full statement", Check.statement(x, 0).split("\n").length, 62);
        Check.due("its balance", x.balance(0), sumOfNets(x));
    }

    private static long sumOfNets(Dues x) {
        long sum = 0;
        for (int i = 0; i < x.count(2); i++) {
            sum += x.net(i);
        }
        return sum;
    }

    private static void billAll() {
        Dues x = Check.loaded(TEXT + "call a 500 to 500 waste 0;");
        x.cancel(3);
        x.bill(1);
        Check.due("billAll(0)", x.billAll(0), 1);
        Check.due("of the call", x.invoice(1, 0), 0);
        int before = x.undoCount();
        Check.due("billAll with nothing to bill", x.billAll(0), 0);
        Check.due("it can be undone", x.undoCount(), before + 1);
        x.undo();
        Check.due("billAll(1)", x.billAll(1), 1);
        x.addCall(0, 30, 30, 0);
        x.addCall(0, 25, 25, 0);
        Check.due("billAll of two", x.billAll(0), 2);
        Check.due("in ascending order", x.invoice(3, 0), 4);
        Check.due("and the next one", x.invoice(4, 0), 5);
        for (int ship : Check.outside(0, 1)) {
            Check.dueRefused(x, "billAll(" + ship + ")", Check.INDEX, () -> x.billAll(ship));
        }
    }

    private static void invoiceValues() {
        Dues x = Check.loaded(TEXT);
        x.advance(17);
        x.setLay(2, 8);
        x.bill(2);
        x.bill(0);
        x.credit(1, 10);
        int[] due = {0, 17, 1, 15, 10, 28};
        for (int what = 0; what < due.length; what++) {
            Check.due("invoice(1, " + what + ")", x.invoice(1, what), due[what]);
        }
        dueLines(x, 1, 350, 0, 9, 24);
        Check.due("net without credited lines", x.net(1), 359);
        for (int what : Check.outside(0, 5)) {
            Check.dueThrow("invoice(1, " + what + ")", Check.ARGUMENT, () -> x.invoice(1, what));
        }
        for (int line : Check.outside(0, 3)) {
            Check.dueThrow("line(1, " + line + ")", Check.ARGUMENT, () -> x.line(1, line));
            Check.dueThrow("rebuilt(1, " + line + ")", Check.ARGUMENT, () -> x.rebuilt(1, line));
        }
    }

    private static void credit() {
        Dues x = Check.loaded(TEXT);
        x.bill(0);
        x.bill(1);
        x.advance(3);
        Check.due("credit(0, 12)", x.credit(0, 12), 0);
        int[] due = {0, 12, 3, -30};
        for (int what = 0; what < due.length; what++) {
            Check.due("note(0, " + what + ")", x.note(0, what), due[what]);
        }
        Check.due("credit of a rebate", x.credit(1, 2), 1);
        Check.due("its amount", x.note(1, 3), 35);
        Check.due("net", x.net(1), 355);
        Check.dueRefused(x, "a line that it does not have", Check.STATE, () -> x.credit(1, 9));
        Check.dueRefused(x, "a line that is credited", Check.STATE, () -> x.credit(0, 5));
        Check.dueRefused(x, "a line that is credited", Check.STATE, () -> x.credit(1, 2));
        Check.due("the rest", x.credit(0, 3), 2);
        Check.due("net", x.net(0), 0);
        for (int lines : Check.outside(1, 15)) {
            Check.dueRefused(x, "credit(0, " + lines + ")", Check.ARGUMENT, () -> x.credit(0, lines));
        }
        for (int invoice : Check.outside(0, 1)) {
            Check.dueRefused(x, "credit(" + invoice + ", 0)", Check.INDEX, () -> x.credit(invoice, 0));
        }
        for (int what : Check.outside(0, 3)) {
            Check.dueThrow("note(0, " + what + ")", Check.ARGUMENT, () -> x.note(0, what));
        }
        for (int note : Check.outside(0, 2)) {
            Check.dueThrow("note(" + note + ", 4)", Check.INDEX, () -> x.note(note, 4));
        }
    }

    private static void creditLimit() {
        Dues x = Check.loaded(TARIFF + "ship a tons 150;");
        for (int i = 0; i < 14; i++) {
            x.addCall(0, i, i, 0);
        }
        x.billAll(0);
        for (int i = 0; i < 40; i++) {
            Check.due("credit", x.credit(i / 3, 1 << i % 3), i);
        }
        Check.dueRefused(x, "credit without room", Check.STATE, () -> x.credit(13, 4));
        Check.due("the last note", x.note(39, 0), 13);
    }

    private static void open() {
        Dues x = Check.loaded(TEXT);
        x.bill(0);
        x.bill(2);
        x.bill(1);
        int[] nets = {380, 198 + 45 + 14, 320};
        for (int i = 0; i < 3; i++) {
            Check.due("net(" + i + ")", x.net(i), nets[i]);
            Check.due("open(" + i + ")", x.open(i), nets[i]);
        }
        Check.due("oldestOpen(0)", x.oldestOpen(0), 0);
        Check.due("oldestOpen(1)", x.oldestOpen(1), 1);
        Check.due("balance(0)", x.balance(0), 700);
        x.pay(0, 379);
        Check.due("open(0)", x.open(0), 1);
        Check.due("oldestOpen(0) with 1 open", x.oldestOpen(0), 0);
        Check.due("overdue with 1 open", x.overdue(0), 3);
        Check.due("open(2)", x.open(2), 320);
        x.pay(0, 1);
        Check.due("open(0)", x.open(0), 0);
        Check.due("open(2)", x.open(2), 320);
        Check.due("oldestOpen(0)", x.oldestOpen(0), 2);
        x.pay(0, 400);
        Check.due("open(2)", x.open(2), 0);
        Check.due("oldestOpen(0)", x.oldestOpen(0), PortDues.NONE);
        Check.due("balance(0)", x.balance(0), -80);
        Check.due("paid(0)", x.paid(0), 780);
        Check.due("open(1) of another ship", x.open(1), 257);
        Check.due("paid(1)", x.paid(1), 0);
        x.credit(0, 15);
        Check.due("open(0) with net 0", x.open(0), 0);
        Check.due("balance(0)", x.balance(0), -460);
    }

    private static void openWithNegativeNet() {
        Dues x = Check.loaded(TEXT);
        x.bill(0);
        x.bill(1);
        x.credit(1, 5);
        Check.due("a net below 0", x.net(1), -35);
        Check.due("nothing of it is open", x.open(1), 0);
        Check.due("it goes to an earlier one", x.open(0), 345);
        Check.due("balance", x.balance(0), 345);
        Check.due("oldestOpen", x.oldestOpen(0), 0);
        Check.due("overdue", x.overdue(0), 1);
        x.pay(0, 345);
        Check.due("open(0)", x.open(0), 0);
        Check.due("oldestOpen", x.oldestOpen(0), PortDues.NONE);
        Check.due("its statement", Check.statement(x, 0), "a\n0 380 0\n1 -35 0\n0\n");
        Dues y = Check.loaded(TEXT);
        y.bill(1);
        y.bill(0);
        y.credit(0, 5);
        Check.due("invoice 0 has a net below 0", y.net(0), -35);
        Check.due("it goes to a later one", y.open(1), 345);
        Dues one = Check.loaded("waste fixed 1 free 0 price 0;ship a tons 1;call a 0 to 0 waste 0;");
        one.bill(0);
        Check.due("a net of 1", one.open(0), 1);
        one.addCall(0, 1, 1, 0);
        one.bill(1);
        one.credit(0, 4);
        one.pay(0, 1);
        Check.due("a net of 0 takes nothing", one.open(1), 0);
        Check.due("its sheet", Check.invoiceSheet(x, 1), "invoice 1 ship a call 1 date 0\ndues 350 credited\nrebate -35\n"
                + "waste 5 credited\nnet -35 open 0\n");
    }

    private static void rebuilt() {
        Dues x = Check.loaded(TEXT);
        x.bill(1);
        x.bill(0);
        for (int line = 0; line < 4; line++) {
            Check.due("rebuilt as it is", x.rebuilt(1, line), x.line(1, line));
        }
        x.setTons(0, 99);
        Check.due("rebuilt dues", x.rebuilt(0, 0), 198);
        Check.due("rebuilt rebate", x.rebuilt(0, 1), -19);
        Check.due("two are stale", x.staleCount(), 2);
        x.undo();
        Check.due("none is stale", x.staleCount(), 0);
        x.setWaste(1, 20);
        Check.due("rebuilt waste", x.rebuilt(0, 2), 25);
        Check.due("isStale(0)", x.isStale(0), true);
        x.credit(0, 4);
        Check.due("a credited line", x.rebuilt(0, 2), 0);
        Check.due("isStale(0)", x.isStale(0), false);
        Check.due("a line that it does not have", x.rebuilt(0, 3), 0);
        x.addCall(0, 0, 0, 0);
        Check.due("rebuilt rebate of a new rank", x.rebuilt(1, 1), -35);
        Check.due("rebuilt rebate of the same percentage", x.rebuilt(0, 1), -35);
        x.dispute(0, 2);
        Check.due("rebuilt lay days", x.rebuilt(1, 3), 14);
        x.settle(0, 2, true);
        Check.due("rebuilt lay days", x.rebuilt(1, 3), 14);
        x.dispute(0, 3);
        x.settle(0, 3, false);
        Check.due("rebuilt lay days", x.rebuilt(1, 3), 14);
    }

    private static void rebuiltByItsVersion() {
        Dues x = Check.loaded(TEXT);
        x.bill(0);
        x.bill(1);
        x.setRate(0, 999);
        x.setPercent(0, 77);
        x.setLay(4, 1000);
        Check.due("nothing is stale", x.staleCount(), 0);
        dueLines(x, 0, 350, 0, 9, 21);
        for (int line = 0; line < 4; line++) {
            Check.due("rebuilt by version 0", x.rebuilt(0, line), x.line(0, line));
        }
        Check.due("the days of the invoice are no lay days now", x.layDays(0), 16);
        x.credit(0, 8);
        x.bill(0);
        Check.due("the version of the new one", x.invoice(2, 2), 3);
        Check.due("its line", x.line(2, 3), 1000);
        Check.due("its rebuilt line", x.rebuilt(2, 3), 1000);
    }

    private static void staleAndContested() {
        Dues x = Check.loaded(TEXT);
        x.bill(0);
        x.bill(2);
        Check.due("contested(0)", x.contested(0), 0);
        x.dispute(0, 2);
        x.dispute(0, 4);
        x.settle(0, 4, true);
        Check.due("contested(0)", x.contested(0), 2);
        Check.due("isStale(0)", x.isStale(0), true);
        Check.due("isStale(1)", x.isStale(1), false);
        Check.due("staleCount", x.staleCount(), 1);
        Check.due("contested(1)", x.contested(1), 0);
        x.settle(0, 2, false);
        Check.due("contested(0)", x.contested(0), 1);
        x.credit(0, 8);
        Check.due("contested(0) with line 3 credited", x.contested(0), 0);
        Check.due("isStale(0) with line 3 credited", x.isStale(0), false);
        x.bill(0);
        Check.due("contested(2)", x.contested(2), 0);
        x.setLay(0, 0);
        x.bill(0);
        x.dispute(0, 1);
        Check.due("contested(3) at the rate 0", x.contested(3), 1);
        Check.due("isStale(3) at the rate 0", x.isStale(3), false);
    }

    private static void dispute() {
        Dues x = Check.loaded(TEXT);
        Check.due("dispute(0, 2)", x.dispute(0, 2), 1);
        Check.due("dispute(0, 4)", x.dispute(0, 4), 2);
        Check.due("count(8)", x.count(8), 2);
        Check.due("pending", x.pending(0), 20);
        x.bill(0);
        Check.due("only the day between is billed", x.billedDays(0), 8);
        Check.due("dispute of a billed day", x.dispute(0, 3), 3);
        Check.due("it stays billed", x.billedDays(0), 8);
        Check.dueRefused(x, "dispute of a pending day", Check.STATE, () -> x.dispute(0, 3));
        x.settle(0, 3, true);
        Check.dueRefused(x, "dispute of an upheld day", Check.STATE, () -> x.dispute(0, 3));
        x.settle(0, 4, false);
        Check.due("dispute of a rejected day", x.dispute(0, 4), 2);
        for (int day : Check.outside(2, 4)) {
            Check.dueRefused(x, "dispute(0, " + day + ")", Check.ARGUMENT, () -> x.dispute(0, day));
        }
        for (int day : new int[] {0, 32, 34, 35, 36, -28, -30}) {
            Check.dueRefused(x, "dispute(0, " + day + ")", Check.ARGUMENT, () -> x.dispute(0, day));
        }
        for (int call : Check.outside(0, 2)) {
            Check.dueRefused(x, "dispute(" + call + ", 0)", Check.INDEX, () -> x.dispute(call, 0));
        }
        x.cancel(2);
        Check.dueRefused(x, "dispute for a cancelled call", Check.STATE, () -> x.dispute(2, 2));
        Check.dueRefused(x, "a wrong day goes first", Check.ARGUMENT, () -> x.dispute(2, 1));
    }

    private static void settle() {
        Dues x = Check.loaded(TEXT);
        x.dispute(0, 2);
        x.dispute(0, 3);
        x.dispute(2, 3);
        Check.due("settle(0, 2, true)", x.settle(0, 2, true), 1);
        Check.due("upheld", x.upheld(0), 4);
        Check.due("pending", x.pending(0), 8);
        Check.due("settle(0, 3, false)", x.settle(0, 3, false), 0);
        Check.due("upheld", x.upheld(0), 4);
        Check.due("pending", x.pending(0), 0);
        Check.due("billable", x.billable(0), 24);
        for (int day : new int[] {2, 3, 4, -1, 30, 31, 32, 35, 64, Integer.MIN_VALUE, Integer.MAX_VALUE}) {
            Check.dueRefused(x, "settle(0, " + day + ")", Check.STATE, () -> x.settle(0, day, true));
        }
        Check.dueRefused(x, "settle(2, 35)", Check.STATE, () -> x.settle(2, 35, true));
        Check.dueRefused(x, "settle(2, -29)", Check.STATE, () -> x.settle(2, -29, true));
        for (int call : Check.outside(0, 2)) {
            Check.dueRefused(x, "settle(" + call + ", 3)", Check.INDEX, () -> x.settle(call, 3, true));
        }
        Dues y = Check.loaded("lay free 0 rate 1;ship a tons 1;call a 0 to 29 waste 0;");
        Check.due("dispute of day 0", y.dispute(0, 0), 1);
        Check.due("dispute of day 29", y.dispute(0, 29), 2);
        Check.due("settle of day 29", y.settle(0, 29, true), 1);
        Check.due("settle of day 0", y.settle(0, 0, true), 0);
        Check.due("upheld", y.upheld(0), 1 << 29 | 1);
        x.cancel(2);
        Check.due("pending days of a cancelled call", x.count(8), 1);
        Check.due("settle for a cancelled call", x.settle(2, 3, true), 0);
    }

    private static void pay() {
        Dues x = Check.loaded(TEXT);
        Check.due("pay(0, 1)", x.pay(0, 1), 1);
        Check.due("pay(0, 1000000000)", x.pay(0, 1000000000), 1000000001);
        Check.due("pay above an int", x.pay(0, 1000000000), 2000000001L);
        Check.due("pay above an int", x.pay(0, 1000000000), 3000000001L);
        Check.due("paid(0)", x.paid(0), 3000000001L);
        Check.due("balance(0)", x.balance(0), -3000000001L);
        Check.due("paid(1)", x.paid(1), 0);
        Check.due("its statement", Check.statement(x, 0), "a\n-3000000001\n");
        x.bill(0);
        Check.due("open(0)", x.open(0), 0);
        for (int ship : Check.outside(0, 1)) {
            Check.dueRefused(x, "pay(" + ship + ", 0)", Check.INDEX, () -> x.pay(ship, 0));
        }
        for (int amount : Check.outside(1, 1000000000)) {
            Check.dueRefused(x, "pay(0, " + amount + ")", Check.ARGUMENT, () -> x.pay(0, amount));
        }
    }

    private static void advance() {
        Dues x = new Dues();
        Check.due("advance(1)", x.advance(1), 1);
        for (int i = 1; i <= 27; i++) {
            Check.due("advance(3600)", x.advance(3600), 1 + i * 3600);
        }
        Check.dueRefused(x, "advance to 100000", Check.STATE, () -> x.advance(2799));
        Check.due("advance to 99999", x.advance(2798), 99999);
        Check.dueRefused(x, "advance above 99999", Check.STATE, () -> x.advance(1));
        for (int days : Check.outside(1, 3600)) {
            Check.dueRefused(x, "advance(" + days + ")", Check.ARGUMENT, () -> x.advance(days));
        }
        Check.due("count(5)", x.count(5), 99999);
    }

    private static void overdue() {
        Dues x = Check.loaded(TEXT);
        x.bill(0);
        x.advance(10);
        x.bill(1);
        x.bill(2);
        x.advance(3589);
        int[][] due = {{0, 3}, {3589, 3}, {3590, 1}, {3599, 1}};
        for (int[] d : due) {
            Check.due("overdue(" + d[0] + ")", x.overdue(d[0]), d[1]);
        }
        x.pay(0, 380);
        Check.due("overdue without the paid one", x.overdue(3590), 0);
        x.pay(0, 319);
        Check.due("overdue in part", x.overdue(3589), 2);
        x.pay(0, 1);
        Check.due("overdue of another ship", x.overdue(0), 1);
        for (int days : Check.outside(0, 3599)) {
            Check.dueThrow("overdue(" + days + ")", Check.ARGUMENT, () -> x.overdue(days));
        }
    }

    private static void revenue() {
        Dues x = Check.loaded(TEXT);
        x.bill(0);
        x.bill(1);
        x.bill(2);
        long[][] due = {{700, -35, 14, 21}, {198, 0, 45, 14}, {0, 0, 0, 0}};
        for (int year = 0; year < 3; year++) {
            for (int line = 0; line < 4; line++) {
                Check.due("revenue(" + year + ", " + line + ")", x.revenue(year, line), due[year][line]);
            }
        }
        x.credit(0, 9);
        Check.due("revenue without credited lines", x.revenue(0, 0), 350);
        Check.due("revenue without credited lay days", x.revenue(0, 3), 0);
        x.bill(0);
        Check.due("revenue of two invoices", x.revenue(0, 0), 700);
        Check.due("revenue(9, 3)", x.revenue(9, 3), 0);
        for (int year : Check.outside(0, 9)) {
            Check.dueThrow("revenue(" + year + ", 0)", Check.ARGUMENT, () -> x.revenue(year, 0));
        }
        for (int line : Check.outside(0, 3)) {
            Check.dueThrow("revenue(0, " + line + ")", Check.ARGUMENT, () -> x.revenue(0, line));
        }
    }

    private static void statement() {
        Dues x = Check.loaded(TEXT);
        Check.due("a statement without invoices", Check.statement(x, 1), "bee\n0\n");
        x.bill(1);
        x.bill(2);
        x.bill(0);
        x.pay(0, 400);
        Check.due("statement(0)", Check.statement(x, 0), "a\n0 320 0\n2 380 300\n300\n");
        Check.due("statement(1)", Check.statement(x, 1), "bee\n1 257 257\n257\n");
        x.pay(0, 301);
        Check.due("statement(0)", Check.statement(x, 0), "a\n0 320 0\n2 380 0\n-1\n");
        for (int ship : Check.outside(0, 1)) {
            Check.dueThrow("writeStatement(" + ship + ")", Check.INDEX, () -> x.writeStatement(ship));
        }
        Check.due("the output stays", x.outputByte(0), 'a');
    }

    private static void sheet() {
        Dues x = Check.loaded(TEXT);
        x.advance(12);
        x.bill(0);
        Check.due("sheet", Check.invoiceSheet(x, 0), "invoice 0 ship a call 0 date 12\ndues 350\nrebate 0\nwaste 9\n"
                + "lay 21 days 2 3 4\nnet 380 open 380\n");
        x.dispute(0, 2);
        x.dispute(0, 4);
        x.settle(0, 4, true);
        x.setTons(0, 200);
        x.setWaste(0, 0);
        x.addCall(0, 0, 0, 0);
        x.pay(0, 100);
        Check.due("a stale sheet", Check.invoiceSheet(x, 0), "invoice 0 ship a call 0 date 12\ndues 350 now 500\n"
                + "rebate 0 now -50\nwaste 9 now 5\nlay 21 days 2? 3 4- now 7\nnet 380 open 280\n");
        x.credit(0, 9);
        Check.due("a credited sheet", Check.invoiceSheet(x, 0), "invoice 0 ship a call 0 date 12\ndues 350 credited\n"
                + "rebate 0 now -50\nwaste 9 now 5\nlay 21 days 2? 3 4- credited\nnet 9 open 0\n");
        x.bill(0);
        Check.due("a sheet of two lines", Check.invoiceSheet(x, 1), "invoice 1 ship a call 0 date 12\ndues 500\n"
                + "lay 7 days 3\nnet 507 open 416\n");
        x.bill(2);
        Check.due("a sheet of another ship", Check.invoiceSheet(x, 2), "invoice 2 ship bee call 2 date 12\ndues 198\n"
                + "rebate 0\nwaste 45\nlay 14 days 2 3\nnet 257 open 257\n");
        x.bill(1);
        Check.due("a sheet without lay days", Check.invoiceSheet(x, 3), "invoice 3 ship a call 1 date 12\ndues 500\n"
                + "rebate -50\nwaste 5\nnet 455 open 455\n");
        Dues y = Check.loaded("lay free 0 rate 9999;ship abcdef tons 1;call abcdef 3 to 32 waste 0;");
        y.bill(0);
        StringBuilder days = new StringBuilder();
        for (int day = 0; day < 30; day++) {
            days.append(' ').append(day);
        }
        Check.due("30 days", Check.invoiceSheet(y, 0), "invoice 0 ship abcdef call 0 date 0\ndues 0\nrebate 0\nwaste 0\n"
                + "lay 299970 days" + days + "\nnet 299970 open 299970\n");
    }

    private static void wrongNumbers() {
        Dues x = Check.loaded(TEXT);
        x.bill(0);
        for (int invoice : Check.outside(0, 0)) {
            Check.dueThrow("invoice(" + invoice + ", 6)", Check.INDEX, () -> x.invoice(invoice, 6));
            Check.dueThrow("line(" + invoice + ", 4)", Check.INDEX, () -> x.line(invoice, 4));
            Check.dueThrow("net(" + invoice + ")", Check.INDEX, () -> x.net(invoice));
            Check.dueThrow("open(" + invoice + ")", Check.INDEX, () -> x.open(invoice));
            Check.dueThrow("rebuilt(" + invoice + ", 4)", Check.INDEX, () -> x.rebuilt(invoice, 4));
            Check.dueThrow("isStale(" + invoice + ")", Check.INDEX, () -> x.isStale(invoice));
            Check.dueThrow("contested(" + invoice + ")", Check.INDEX, () -> x.contested(invoice));
            Check.dueThrow("writeInvoice(" + invoice + ")", Check.INDEX, () -> x.writeInvoice(invoice));
        }
        for (int ship : Check.outside(0, 1)) {
            Check.dueThrow("balance(" + ship + ")", Check.INDEX, () -> x.balance(ship));
            Check.dueThrow("paid(" + ship + ")", Check.INDEX, () -> x.paid(ship));
            Check.dueThrow("oldestOpen(" + ship + ")", Check.INDEX, () -> x.oldestOpen(ship));
        }
    }
}
