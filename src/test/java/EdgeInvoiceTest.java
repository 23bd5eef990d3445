/**
 * Section 3 (INVOICES) and promises 26 to 39, 49 to 55, 61 and 62: a test for each sentence that names a
 * boundary case. The sentence stands above its test.
 */
final class EdgeInvoiceTest {
    private static final String TARIFF = "band 0 rate 1;rebate 2 percent 10;rebate 4 percent 50;"
            + "waste fixed 5 free 10 price 2;lay free 2 rate 7;";
    private static final String TEXT = TARIFF + "ship a tons 100;ship b tons 9;call a 0 to 4 waste 11;";

    private EdgeInvoiceTest() {
    }

    public static void main(String[] args) {
        rebateTowardsZero();
        everySetOfCreditedLines();
        creditedOnce();
        linesThatItDoesNotHave();
        billableDays();
        billedDaysOfSeveral();
        nothingToBill();
        linesAsTheyWereBilled();
        sixtyInvoices();
        billAllOfNothing();
        fortyNotes();
        netsAndOpen();
        netsBelowZero();
        openInAscendingOrder();
        balances();
        Check.finish();
    }

    private static void dueLines(String what, Dues x, int invoice, int... due) {
        for (int line = 0; line < 4; line++) {
            Check.due(what + ": line(" + invoice + ", " + line + ")", x.line(invoice, line), due[line]);
        }
    }

    // "1 the rebate: minus dues * percentage / 100, rounded towards 0"
    private static void rebateTowardsZero() {
        int[][] due = {{1, 99, 0}, {1, 100, -1}, {99, 1, 0}, {100, 1, -1}, {101, 1, -1}, {199, 1, -1}, {200, 1, -2},
            {3, 33, 0}, {3, 34, -1}, {9999, 0, 0}, {9999, 99, -9899}, {9999, 100, -9999}};
        for (int[] d : due) {
            Dues x = Check.loaded("band 0 rate 1;rebate 2 percent " + d[1] + ";ship a tons " + d[0]
                    + ";call a 0 to 0 waste 0;call a 0 to 0 waste 0;");
            String what = d[1] + " percent of " + d[0];
            Check.due(what, x.amount(1, 1), d[2]);
            Check.due(what + ", of a year", x.rebates(0, 0), d[2]);
            Check.due(what + ", in the sum", x.callTotal(1), d[0] + d[2]);
            x.bill(1);
            Check.due(what + ", billed", x.line(0, 1), d[2]);
            Check.due(what + ", revenue", x.revenue(0, 1), d[2]);
        }
    }

    // "The lines 0 to 2 of a call are billed if an invoice has them, and they are not credited there; a day of it is
    // billed if it is among the days of an invoice whose line 3 is not credited."
    // bill: "with those lines 0 to 2 of a call that are not billed, and with line 3 if it has billable days"
    private static void everySetOfCreditedLines() {
        int[] lines = {100, 0, 7, 21};
        for (int set = 1; set <= 15; set++) {
            Dues x = Check.loaded(TEXT);
            x.bill(0);
            x.advance(set);
            int sum = 0;
            for (int line = 0; line < 4; line++) {
                sum += (set >> line & 1) * lines[line];
            }
            String what = "credited " + set;
            Check.due(what, x.credit(0, set), 0);
            int[] note = {0, set, set, -sum};
            for (int i = 0; i < 4; i++) {
                Check.due(what + ": note(0, " + i + ")", x.note(0, i), note[i]);
            }
            dueLines(what, x, 0, lines);
            Check.due(what + ": net", x.net(0), 128 - sum);
            Check.due(what + ": invoice(0, 3)", x.invoice(0, 3), 15);
            Check.due(what + ": invoice(0, 4)", x.invoice(0, 4), set);
            Check.due(what + ": invoice(0, 5)", x.invoice(0, 5), 0x1c);
            Check.due(what + ": billed lines", x.call(0, 7), 7 & ~set);
            Check.due(what + ": billed days", x.billedDays(0), set > 7 ? 0 : 0x1c);
            Check.due(what + ": billable", x.billable(0), set > 7 ? 0x1c : 0);
            for (int line = 0; line < 4; line++) {
                boolean credited = (set >> line & 1) == 1;
                Check.due(what + ": rebuilt(0, " + line + ")", x.rebuilt(0, line), credited ? 0 : lines[line]);
                Check.due(what + ": revenue(0, " + line + ")", x.revenue(0, line), credited ? 0 : lines[line]);
            }
            Check.due(what + ": bill once more", x.bill(0), 1);
            Check.due(what + ": its lines", x.invoice(1, 3), set);
            Check.due(what + ": its days", x.invoice(1, 5), set > 7 ? 0x1c : 0);
            Check.due(what + ": its date", x.invoice(1, 1), set);
            for (int line = 0; line < 4; line++) {
                Check.due(what + ": its line " + line, x.line(1, line), (set >> line & 1) * lines[line]);
            }
            Check.due(what + ": billed lines of both", x.call(0, 7), 7);
            Check.dueRefused(x, what + ": bill a third time", Check.STATE, () -> x.bill(0));
        }
    }

    // "A credit note credits lines of an invoice, each at most once"; credit: "lines is not from 1 to 15",
    // "the invoice does not have one of the lines, or it is credited"
    private static void creditedOnce() {
        for (int first = 1; first <= 15; first++) {
            Dues x = Check.loaded(TEXT);
            x.bill(0);
            x.credit(0, first);
            for (int second = 1; second <= 15; second++) {
                int set = second;
                if ((first & second) != 0) {
                    Check.dueRefused(x, "credit " + first + " and " + second, Check.STATE, () -> x.credit(0, set));
                } else {
                    Check.due("credit " + first + " and " + second, x.credit(0, second), 1);
                    Check.due("both are credited", x.invoice(0, 4), first | second);
                    x.undo();
                }
            }
            for (int wrong : new int[] {0, 16, -1, 31, Integer.MIN_VALUE, Integer.MAX_VALUE}) {
                Check.dueRefused(x, "credit of " + wrong, Check.ARGUMENT, () -> x.credit(0, wrong));
            }
            Check.dueRefused(x, "credit of no invoice", Check.INDEX, () -> x.credit(1, 0));
        }
    }

    // "Lines that an invoice does not have are 0."
    private static void linesThatItDoesNotHave() {
        for (int had = 1; had <= 15; had++) {
            Dues x = Check.loaded(TEXT);
            x.bill(0);
            x.credit(0, had);
            x.bill(0);
            int set = had;
            for (int line = 0; line < 4; line++) {
                if ((had >> line & 1) == 0) {
                    int bit = 1 << line;
                    Check.due("line " + line + " of " + had, x.line(1, line), 0);
                    Check.due("rebuilt line " + line + " of " + had, x.rebuilt(1, line), 0);
                    Check.dueRefused(x, "credit of the line " + line + " of " + had, Check.STATE, () -> x.credit(1, bit));
                    Check.dueRefused(x, "credit of one more than " + had, Check.STATE, () -> x.credit(1, set | bit));
                }
            }
            Check.due("no line of it is stale", x.isStale(1), false);
            x.setTons(0, 5);
            x.setWaste(0, 0);
            Check.due("its own lines can be", x.isStale(1), (had & 5) != 0);
            Check.due("credit of all that it has", x.credit(1, had), 1);
            Check.due("its net", x.net(1), 0);
        }
        // A line can be 0 and still be there.
        Dues zero = Check.loaded("ship a tons 1;call a 0 to 0 waste 0;");
        zero.bill(0);
        Check.due("lines that are 0", zero.invoice(0, 3), 7);
        Check.due("credit of them", zero.credit(0, 7), 0);
        Check.due("its amount", zero.note(0, 3), 0);
    }

    // "Billable days are lay days that are not billed, not pending and not upheld."
    private static void billableDays() {
        Dues x = Check.loaded(TEXT);
        x.dispute(0, 2);
        x.dispute(0, 3);
        x.dispute(0, 4);
        Check.due("all are pending", x.billable(0), 0);
        x.bill(0);
        Check.due("no line 3", x.invoice(0, 3), 7);
        Check.due("no days", x.invoice(0, 5), 0);
        Check.dueRefused(x, "bill once more", Check.STATE, () -> x.bill(0));
        x.settle(0, 2, true);
        Check.due("an upheld day", x.billable(0), 0);
        Check.dueRefused(x, "bill with an upheld day", Check.STATE, () -> x.bill(0));
        x.settle(0, 4, false);
        Check.due("a rejected day", x.billable(0), 16);
        Check.due("bill of one day", x.bill(0), 1);
        Check.due("only line 3", x.invoice(1, 3), 8);
        Check.due("only that day", x.invoice(1, 5), 16);
        Check.due("its line", x.line(1, 3), 7);
        x.setLay(1, 7);
        Check.due("a new lay day", x.billable(0), 2);
        x.setLay(30, 7);
        Check.due("no lay days", x.billable(0), 0);
        Check.due("the billed day stays billed", x.billedDays(0), 16);
    }

    // "a day of it is billed if it is among the days of an invoice whose line 3 is not credited"; "also one that is
    // billed (it stays billed)"
    private static void billedDaysOfSeveral() {
        Dues x = Check.loaded("lay free 29 rate 7;ship a tons 1;call a 0 to 29 waste 0;");
        // The twentieth version is the last one: it has all the days that are left.
        for (int free = 29; free >= 10; free--) {
            if (free < 29) {
                x.setLay(free, 7);
            }
            Check.due("one more day", x.billable(0), 1 << free);
            x.bill(0);
            Check.due("the days of invoice " + (29 - free), x.invoice(29 - free, 5), 1 << free);
            Check.due("the billed days", x.billedDays(0), 0x3fffffff & -1 << free);
        }
        x.setLay(0, 7);
        Check.due("the rest at once", x.bill(0), 20);
        Check.due("its days", x.invoice(20, 5), 0x3ff);
        for (int day = 0; day < 30; day++) {
            x.dispute(0, day);
        }
        Check.due("disputed days stay billed", x.billedDays(0), 0x3fffffff);
        Check.due("contested of one", x.contested(0), 1);
        Check.due("contested of the rest", x.contested(20), 10);
        x.credit(20, 8);
        Check.due("credited days are not billed", x.billedDays(0), 0x3ffffc00);
        Check.due("contested of credited ones", x.contested(20), 0);
        Check.due("but they are pending", x.billable(0), 0);
    }

    // bill: "the call is cancelled, all its lines 0 to 2 are billed and it has no billable days"
    private static void nothingToBill() {
        Dues x = Check.loaded(TEXT + "call b 0 to 1 waste 0;call b 0 to 2 waste 0;");
        x.cancel(2);
        Check.dueRefused(x, "bill of a cancelled call", Check.STATE, () -> x.bill(2));
        x.bill(1);
        Check.dueRefused(x, "bill without lay days", Check.STATE, () -> x.bill(1));
        for (int line = 0; line < 3; line++) {
            x.credit(0, 1 << line);
            Check.due("one line is enough", x.bill(1), 1 + line);
            Check.due("that line", x.invoice(1 + line, 3), 1 << line);
            Check.dueRefused(x, "bill once more", Check.STATE, () -> x.bill(1));
        }
        Check.dueRefused(x, "bill of no call", Check.INDEX, () -> x.bill(3));
        Check.dueRefused(x, "bill of call -1", Check.INDEX, () -> x.bill(-1));
    }

    /** 40 calls, each with one invoice; then 19 more of them for the new lay day. */
    private static Dues with59Invoices() {
        Dues x = Check.loaded(TARIFF + "ship a tons 100;ship b tons 9;");
        for (int i = 0; i < 40; i++) {
            x.addCall(i < 38 ? 0 : 1, 3599, 3628, 0);
        }
        x.billAll(1);
        x.billAll(0);
        x.setLay(1, 3);
        for (int i = 0; i < 19; i++) {
            x.bill(i);
        }
        return x;
    }

    // bill: "IllegalStateException if ... there are 60 invoices"; billAll: "for which bill() would not throw"
    private static void sixtyInvoices() {
        Dues x = with59Invoices();
        Check.due("59 invoices", x.count(2), 59);
        Check.due("billAll where one has room", x.billAll(0), 1);
        Check.due("the lowest call that can be billed", x.invoice(59, 0), 19);
        Check.dueRefused(x, "bill without room", Check.STATE, () -> x.bill(20));
        Check.dueRefused(x, "bill of no call", Check.INDEX, () -> x.bill(40));
        Check.due("billAll without room", x.billAll(0), 0);
        Check.due("billAll of another ship without room", x.billAll(1), 0);
        Check.due("60 invoices", x.count(2), 60);
        for (int invoice : new int[] {-1, 60}) {
            Check.dueThrow("net(" + invoice + ")", Check.INDEX, () -> x.net(invoice));
            Check.dueThrow("writeInvoice(" + invoice + ")", Check.INDEX, () -> x.writeInvoice(invoice));
        }
        Check.due("net(59)", x.net(59), 3);
        Dues y = with59Invoices();
        Check.due("bill of the last one", y.bill(39), 59);
        Check.dueRefused(y, "bill without room", Check.STATE, () -> y.bill(38));
        y.undo();
        Check.due("bill behind undo", y.bill(38), 59);
    }

    // "The net of an invoice is the sum of its lines that are not credited." Its lines, not the rebuilt ones.
    private static void linesAsTheyWereBilled() {
        Dues x = Check.loaded(TEXT + "call a 5 to 8 waste 30;");
        x.bill(0);
        x.bill(1);
        x.setTons(0, 9);
        x.setWaste(1, 0);
        x.addCall(0, 0, 0, 0);
        x.addCall(0, 1, 1, 0);
        x.dispute(1, 2);
        x.setRate(0, 9);
        Check.due("the dues now", x.rebuilt(1, 0), 9);
        Check.due("the rebate now", x.rebuilt(1, 1), -4);
        Check.due("the waste fee now", x.rebuilt(1, 2), 5);
        Check.due("the lay days now", x.rebuilt(1, 3), 7);
        dueLines("as billed", x, 1, 100, -10, 45, 14);
        Check.due("net", x.net(1), 149);
        Check.due("open", x.open(1), 149);
        Check.due("balance", x.balance(0), 277);
        int[] revenue = {200, -10, 52, 35};
        for (int line = 0; line < 4; line++) {
            Check.due("revenue(0, " + line + ")", x.revenue(0, line), revenue[line]);
        }
        Check.due("the statement", Check.statement(x, 0), "a\n0 128 128\n1 149 149\n277\n");
        x.credit(1, 7);
        Check.due("the amount of the note", x.note(0, 3), -135);
        Check.due("the net then", x.net(1), 14);
    }

    // billAll: "Returns how many were made." "in ascending order"
    private static void billAllOfNothing() {
        Dues x = Check.loaded(TEXT);
        Check.due("a ship without calls", x.billAll(1), 0);
        Check.due("one call", x.billAll(0), 1);
        Check.due("none is left", x.billAll(0), 0);
        for (int i = 1; i < 40; i++) {
            x.addCall(i % 2, 40 - i, 40 - i, 0);
        }
        x.cancel(5);
        Check.due("all calls of a ship", x.billAll(1), 19);
        for (int i = 0; i < 19; i++) {
            Check.due("the call of invoice " + (i + 1), x.invoice(i + 1, 0), i < 2 ? 2 * i + 1 : 2 * i + 3);
        }
        for (int ship : new int[] {-1, 2}) {
            Check.dueRefused(x, "billAll(" + ship + ")", Check.INDEX, () -> x.billAll(ship));
        }
    }

    // credit: "IllegalStateException if ... there are 40 credit notes"
    private static void fortyNotes() {
        Dues x = with59Invoices();
        for (int i = 0; i < 40; i++) {
            Check.due("credit", x.credit(i, 4), i);
        }
        Check.due("count(3)", x.count(3), 40);
        Check.dueRefused(x, "credit without room", Check.STATE, () -> x.credit(0, 1));
        Check.dueRefused(x, "a wrong invoice goes first", Check.INDEX, () -> x.credit(59, 0));
        Check.dueRefused(x, "a wrong set goes first", Check.ARGUMENT, () -> x.credit(0, 16));
        Check.due("note(39, 0)", x.note(39, 0), 39);
        for (int note : new int[] {-1, 40}) {
            Check.dueThrow("note(" + note + ", 0)", Check.INDEX, () -> x.note(note, 0));
            Check.dueThrow("note(" + note + ", 4)", Check.INDEX, () -> x.note(note, 4));
        }
        x.undo();
        Check.dueThrow("the note that was undone", Check.INDEX, () -> x.note(39, 0));
        Check.due("credit behind undo", x.credit(0, 1), 39);
    }

    // "to each as much as its net or as there is left; the rest of the net is open"
    private static void netsAndOpen() {
        Dues x = Check.loaded(TEXT + "call a 5 to 5 waste 0;");
        x.bill(0);
        x.bill(1);
        int[] nets = {128, 95};
        for (int paid = 0; paid <= 225; paid++) {
            Check.due("open(0) at " + paid, x.open(0), Math.max(nets[0] - paid, 0));
            Check.due("open(1) at " + paid, x.open(1), Math.max(nets[1] - Math.max(paid - nets[0], 0), 0));
            Check.due("oldestOpen at " + paid, x.oldestOpen(0), paid < 128 ? 0 : paid < 223 ? 1 : PortDues.NONE);
            Check.due("overdue at " + paid, x.overdue(0), paid < 128 ? 2 : paid < 223 ? 1 : 0);
            Check.due("balance at " + paid, x.balance(0), 223 - paid);
            x.pay(0, 1);
        }
        Dues least = Check.loaded("waste fixed 1 free 0 price 0;ship a tons 1;call a 0 to 0 waste 0;");
        least.bill(0);
        Check.due("open of a net of 1", least.open(0), 1);
        Check.due("oldestOpen with a net of 1", least.oldestOpen(0), 0);
        Check.due("overdue with a net of 1", least.overdue(0), 1);
        least.credit(0, 4);
        Check.due("open of a net of 0", least.open(0), 0);
        Check.due("oldestOpen with a net of 0", least.oldestOpen(0), PortDues.NONE);
        Check.due("overdue with a net of 0", least.overdue(0), 0);
        Check.due("oldestOpen without invoices", x.oldestOpen(1), PortDues.NONE);
        Check.due("balance without invoices", x.balance(1), 0);
        Check.due("paid without payments", x.paid(1), 0);
    }

    // "plus the amounts by which nets of its invoices are below 0"
    private static void netsBelowZero() {
        Dues x = Check.loaded(TEXT + "call a 5 to 5 waste 0;call b 0 to 0 waste 0;call b 1 to 1 waste 0;");
        x.bill(1);
        x.bill(0);
        x.bill(2);
        x.credit(0, 5);
        Check.due("a net below 0", x.net(0), -10);
        Check.due("open of a net below 0", x.open(0), 0);
        Check.due("it goes to a later one", x.open(1), 118);
        Check.due("not to another ship", x.open(2), 14);
        x.credit(1, 15);
        Check.due("open of a net of 0", x.open(1), 0);
        Check.due("oldestOpen", x.oldestOpen(0), PortDues.NONE);
        Check.due("a balance below 0", x.balance(0), -10);
        x.bill(0);
        Check.due("it goes over a net of 0", x.open(3), 118);
        x.pay(0, 117);
        Check.due("1 is open", x.open(3), 1);
        Check.due("oldestOpen", x.oldestOpen(0), 3);
        x.pay(0, 1);
        Check.due("nothing is open", x.open(3), 0);
        Check.due("a balance of 0", x.balance(0), 0);
        Check.due("its statement", Check.statement(x, 0), "a\n0 -10 0\n1 0 0\n3 128 0\n0\n");
    }

    // "a sum that goes to its invoices with a net above 0, in ascending order"
    private static void openInAscendingOrder() {
        Dues x = Check.loaded("waste fixed 10 free 0 price 0;ship a tons 1;ship b tons 1;");
        for (int i = 0; i < 40; i++) {
            x.addCall(i % 2, 40 - i, 40 - i, 0);
        }
        x.billAll(1);
        x.billAll(0);
        x.pay(0, 95);
        for (int i = 0; i < 40; i++) {
            Check.due("open(" + i + ")", x.open(i), i < 20 ? 10 : i < 29 ? 0 : i == 29 ? 5 : 10);
        }
        Check.due("oldestOpen(0)", x.oldestOpen(0), 29);
        Check.due("oldestOpen(1)", x.oldestOpen(1), 0);
        // A credit sets free what its invoice had.
        x.credit(20, 4);
        Check.due("open(29)", x.open(29), 0);
        Check.due("open(30)", x.open(30), 5);
    }

    // pay: "amount: 1 to 1000000000"; "The balance of a ship is the sum of all nets minus its payments."
    private static void balances() {
        Dues x = Check.loaded(TEXT);
        for (int wrong : new int[] {0, -1, 1000000001, Integer.MIN_VALUE, Integer.MAX_VALUE}) {
            Check.dueRefused(x, "pay(0, " + wrong + ")", Check.ARGUMENT, () -> x.pay(0, wrong));
            Check.dueRefused(x, "pay(2, " + wrong + ")", Check.INDEX, () -> x.pay(2, wrong));
            Check.dueRefused(x, "pay(-1, " + wrong + ")", Check.INDEX, () -> x.pay(-1, wrong));
        }
        Check.due("pay the least", x.pay(0, 1), 1);
        x.bill(0);
        for (long times = 1; times <= 300; times++) {
            Check.due("pay the most", x.pay(0, 1000000000), 1 + times * 1000000000);
        }
        Check.due("paid", x.paid(0), 300000000001L);
        Check.due("balance", x.balance(0), 127 - 300000000000L);
        Check.due("open", x.open(0), 0);
        Check.due("statement", Check.statement(x, 0), "a\n0 128 0\n-299999999873\n");
        Check.due("another ship", x.paid(1), 0);
    }
}
