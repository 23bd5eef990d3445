/**
 * What is rebuilt, disputed, overdue and written: the rest of section 3 and promises 30 to 33, 38, 39, 52, 53,
 * 55, 61 and 62, a test for each sentence that names a boundary case. The sentence stands above its test.
 */
final class EdgeSheetTest {
    private static final String TARIFF = "band 0 rate 1;rebate 2 percent 10;rebate 4 percent 50;"
            + "waste fixed 5 free 10 price 2;lay free 2 rate 7;";
    private static final String TEXT = TARIFF + "ship a tons 100;ship abcdef tons 9;call a 0 to 4 waste 11;";

    private EdgeSheetTest() {
    }

    public static void main(String[] args) {
        oneLineIsStale();
        rebuiltByRank();
        rebuiltDays();
        staleCounts();
        contestedDays();
        disputeLayDaysOnly();
        disputeOnce();
        settlePendingOnly();
        settledAsNeverDisputed();
        pendingDaysOfOneCall();
        advanceToTheLastDay();
        overdueByDays();
        revenueOfYears();
        statements();
        fullStatement();
        invoiceLines();
        daysOfAnInvoice();
        creditedOrNow();
        Check.finish();
    }

    // "An invoice is stale if one of its lines that are not credited differs from the rebuilt one."
    private static void oneLineIsStale() {
        stale("dues that are less by 1", 0, 99, x -> x.setTons(0, 99));
        stale("dues that are more by 1", 0, 101, x -> x.setTons(0, 101));
        stale("the rebate of another rank", 1, -10, x -> x.addCall(0, 4, 4, 0));
        stale("a waste fee", 2, 5, x -> x.setWaste(0, 10));
        stale("a pending day", 3, 14, x -> x.dispute(0, 2));
        stale("an upheld day", 3, 14, x -> {
            x.dispute(0, 4);
            x.settle(0, 4, true);
        });
        Dues x = billed();
        x.setTons(0, 99);
        x.setTons(0, 100);
        x.setWaste(0, 12);
        x.setWaste(0, 11);
        x.dispute(0, 3);
        x.settle(0, 3, false);
        x.addCall(0, 5, 5, 0);
        Check.due("all is as it was", x.isStale(0), false);
        x.setRate(0, 999);
        x.setPercent(0, 99);
        x.setLay(0, 9999);
        Check.due("another version is none of it", x.isStale(0), false);
    }

    private static Dues billed() {
        Dues x = Check.loaded(TARIFF + "ship a tons 100;call a 5 to 9 waste 11;");
        x.bill(0);
        return x;
    }

    private interface Change {
        void make(Dues x);
    }

    /** Only that line of invoice 0 differs; it is not stale any more as soon as that line is credited. */
    private static void stale(String what, int line, int now, Change change) {
        Dues x = billed();
        change.make(x);
        Check.due(what + " is stale", x.isStale(0), true);
        Check.due("staleCount with " + what, x.staleCount(), 1);
        for (int other = 0; other < 4; other++) {
            Check.due(what + ": rebuilt(0, " + other + ")", x.rebuilt(0, other), other == line ? now : x.line(0, other));
        }
        x.credit(0, 1 << line);
        Check.due(what + " is credited", x.isStale(0), false);
        Check.due("staleCount with credited " + what, x.staleCount(), 0);
        Check.due("a credited line that is rebuilt", x.rebuilt(0, line), 0);
    }

    // "lines 0 to 2 by the present tonnage, rank and waste"
    private static void rebuiltByRank() {
        Dues x = Check.loaded(TARIFF + "ship a tons 100;call a 359 to 359 waste 0;call a 360 to 360 waste 0;");
        x.bill(0);
        x.bill(1);
        int[] rebates = {0, -10, -10, -50, -50};
        for (int i = 0; i < rebates.length; i++) {
            Check.due("rebuilt with " + i + " calls before", x.rebuilt(0, 1), rebates[i]);
            Check.due("rebuilt in the next year", x.rebuilt(1, 1), 0);
            x.addCall(0, 0, 0, 0);
        }
        // By the version of the invoice, not by the present one.
        x.setPercent(1, 99);
        Check.due("rebuilt by version 0", x.rebuilt(0, 1), -50);
        x.cancel(2);
        x.cancel(3);
        Check.due("rebuilt with cancelled calls before", x.rebuilt(0, 1), -50);
        x.cancel(4);
        Check.due("rebuilt with one more of them", x.rebuilt(0, 1), -10);
    }

    // "line 3 for those of its days that are neither pending nor upheld"
    private static void rebuiltDays() {
        Dues x = Check.loaded("lay free 0 rate 9999;ship a tons 1;call a 0 to 29 waste 0;");
        x.bill(0);
        Check.due("all days", x.rebuilt(0, 3), 299970);
        // A later version has fewer lay days; those of the invoice stay.
        x.setLay(29, 1);
        Check.due("all days of the invoice", x.rebuilt(0, 3), 299970);
        x.setLay(0, 1);
        int left = 30;
        for (int day = 0; day < 30; day++) {
            x.dispute(0, day);
            Check.due("rebuilt with a pending day", x.rebuilt(0, 3), 9999 * (left - 1));
            if (day % 3 > 0) {
                x.settle(0, day, day % 3 == 1);
            }
            left -= day % 3 == 2 ? 0 : 1;
            Check.due("rebuilt", x.rebuilt(0, 3), 9999 * left);
        }
        Check.due("the line itself", x.line(0, 3), 299970);
    }

    // staleCount: "Returns how many invoices are stale."
    private static void staleCounts() {
        Check.due("of an empty ledger", new Dues().staleCount(), 0);
        Dues x = Check.loaded(TARIFF + "ship a tons 100;ship b tons 100;");
        for (int i = 0; i < 40; i++) {
            x.addCall(i % 2, 0, 2, 0);
            x.bill(i);
        }
        x.setLay(1, 7);
        x.billAll(0);
        Check.due("60 invoices", x.count(2), 60);
        Check.due("none is stale", x.staleCount(), 0);
        x.setTons(1, 99);
        Check.due("those of a ship", x.staleCount(), 20);
        x.setTons(0, 99);
        Check.due("those with dues", x.staleCount(), 40);
        for (int i = 0; i < 40; i += 2) {
            x.dispute(i, 1);
        }
        Check.due("all 60", x.staleCount(), 60);
    }

    // contested: "how many of its days are pending or upheld; 0 if its line 3 is credited"
    private static void contestedDays() {
        Dues x = Check.loaded("lay free 0 rate 0;ship a tons 1;call a 0 to 29 waste 0;call a 0 to 29 waste 0;");
        x.dispute(0, 29);
        x.bill(0);
        x.bill(1);
        Check.due("a pending day that it does not have", x.contested(0), 0);
        for (int day = 0; day < 29; day++) {
            x.dispute(0, day);
            Check.due("contested", x.contested(0), day + 1);
            x.settle(0, day, true);
            Check.due("contested by upheld days", x.contested(0), day + 1);
        }
        Check.due("another invoice", x.contested(1), 0);
        Check.due("at the rate 0 nothing is stale", x.isStale(0), false);
        x.credit(0, 7);
        Check.due("other lines are credited", x.contested(0), 29);
        x.credit(0, 8);
        Check.due("line 3 is credited", x.contested(0), 0);
        x.settle(0, 29, false);
        x.bill(0);
        Check.due("an invoice of the day that is left", x.invoice(2, 5), 1 << 29);
        Check.due("contested of it", x.contested(2), 0);
        Dues none = Check.loaded("ship a tons 1;call a 0 to 29 waste 0;");
        none.bill(0);
        Check.due("an invoice without line 3", none.contested(0), 0);
    }

    // dispute: "IllegalArgumentException if day is not one of its lay days"
    private static void disputeLayDaysOnly() {
        int[][] ranges = {{0, 1}, {0, 30}, {29, 30}, {1, 30}, {5, 6}, {28, 29}};
        for (int[] range : ranges) {
            int least = range[0];
            int greatest = range[1] - 1;
            Dues x = Check.loaded("lay free " + least + " rate 1;ship a tons 1;call a 0 to " + greatest + " waste 0;");
            for (int day : new int[] {least - 1, greatest + 1, -1, 30, 31, 32, 32 + least, 64 + least, least - 32,
                Integer.MIN_VALUE, Integer.MIN_VALUE + least, Integer.MAX_VALUE}) {
                Check.dueRefused(x, "dispute of day " + day, Check.ARGUMENT, () -> x.dispute(0, day));
            }
            Check.due("dispute of the last day", x.dispute(0, greatest), 1);
            if (least < greatest) {
                Check.due("dispute of the first lay day", x.dispute(0, least), 2);
            }
        }
        Dues none = Check.loaded("lay free 30 rate 1;ship a tons 1;call a 0 to 29 waste 0;");
        for (int day = -1; day <= 30; day++) {
            int wrong = day;
            Check.dueRefused(none, "dispute of day " + day, Check.ARGUMENT, () -> none.dispute(0, wrong));
        }
        Check.dueRefused(none, "a wrong call goes first", Check.INDEX, () -> none.dispute(1, 30));
        Check.dueRefused(none, "a wrong call goes first", Check.INDEX, () -> none.dispute(-1, 30));
    }

    // dispute: "IllegalStateException if the day is pending or upheld, or the call is cancelled"
    private static void disputeOnce() {
        Dues x = Check.loaded("lay free 1 rate 1;ship a tons 1;call a 0 to 29 waste 0;call a 0 to 29 waste 0;");
        for (int day = 1; day < 30; day++) {
            int same = day;
            Check.due("dispute", x.dispute(0, day), 1 + (day - 1) / 2);
            Check.dueRefused(x, "dispute of a pending day", Check.STATE, () -> x.dispute(0, same));
            if (day % 2 == 1) {
                x.settle(0, day, true);
                Check.dueRefused(x, "dispute of an upheld day", Check.STATE, () -> x.dispute(0, same));
            }
        }
        x.cancel(1);
        Check.dueRefused(x, "dispute for a cancelled call", Check.STATE, () -> x.dispute(1, 1));
        Check.dueRefused(x, "dispute of no lay day of a cancelled call", Check.ARGUMENT, () -> x.dispute(1, 0));
        Check.due("the days of the other call stay", x.pending(1), 0);
    }

    // settle: "IllegalStateException if the day is not pending (also a number that is no day)"
    private static void settlePendingOnly() {
        Dues x = Check.loaded("lay free 0 rate 1;ship a tons 1;call a 0 to 29 waste 0;call a 0 to 9 waste 0;");
        x.dispute(0, 0);
        x.dispute(0, 29);
        x.dispute(0, 5);
        x.settle(0, 5, true);
        for (int day : new int[] {-1, 1, 5, 28, 30, 31, 32, 61, 64, 29 - 32, -32, Integer.MIN_VALUE, Integer.MIN_VALUE + 29,
            Integer.MAX_VALUE}) {
            for (boolean inFavour : new boolean[] {true, false}) {
                Check.dueRefused(x, "settle of day " + day, Check.STATE, () -> x.settle(0, day, inFavour));
                Check.dueRefused(x, "settle of day " + day + " of no call", Check.INDEX, () -> x.settle(2, day, inFavour));
            }
        }
        Check.dueRefused(x, "settle of a pending day of another call", Check.STATE, () -> x.settle(1, 0, true));
        Check.dueRefused(x, "settle of call -1", Check.INDEX, () -> x.settle(-1, 0, true));
        Check.due("settle of the last day", x.settle(0, 29, true), 1);
        Check.dueRefused(x, "settle of it once more", Check.STATE, () -> x.settle(0, 29, true));
        Check.due("settle of day 0", x.settle(0, 0, false), 0);
        Check.dueRefused(x, "settle of a rejected day", Check.STATE, () -> x.settle(0, 0, false));
        Check.due("upheld", x.upheld(0), 1 << 29 | 32);
    }

    // settle: "false if it is rejected (it is as if it was never disputed then)"
    private static void settledAsNeverDisputed() {
        Dues x = Check.loaded(TEXT);
        Dues y = Check.loaded(TEXT);
        x.dispute(0, 4);
        x.settle(0, 4, false);
        Check.due("as never disputed", Check.rows(x), Check.rows(y));
        x.bill(0);
        y.bill(0);
        Check.due("its invoice", Check.invoiceSheet(x, 0), Check.invoiceSheet(y, 0));
        Check.due("dispute once more", x.dispute(0, 4), 1);
    }

    // dispute and settle: "Returns how many of its days are pending then."
    private static void pendingDaysOfOneCall() {
        Dues x = Check.loaded("lay free 0 rate 1;ship a tons 1;ship b tons 1;call a 0 to 9 waste 0;"
                + "call a 0 to 9 waste 0;call b 0 to 9 waste 0;");
        Check.due("the first day of call 1", x.dispute(1, 0), 1);
        Check.due("its second day", x.dispute(1, 9), 2);
        Check.due("a day of another call", x.dispute(0, 0), 1);
        Check.due("a day of another ship", x.dispute(2, 9), 1);
        Check.due("the third day of call 1", x.dispute(1, 5), 3);
        Check.due("count(8)", x.count(8), 5);
        Check.due("settle in favour", x.settle(1, 0, true), 2);
        Check.due("upheld days do not count", x.dispute(1, 1), 3);
        Check.due("settle of the other call", x.settle(0, 0, false), 0);
        Check.due("settle not in favour", x.settle(1, 9, false), 2);
        Check.due("count(8) then", x.count(8), 3);
    }

    // advance: "days: 1 to 3600", "IllegalStateException if today would be above 99999"
    private static void advanceToTheLastDay() {
        Dues x = Check.loaded(TEXT);
        for (int wrong : new int[] {0, -1, 3601, Integer.MIN_VALUE, Integer.MAX_VALUE}) {
            Check.dueRefused(x, "advance(" + wrong + ")", Check.ARGUMENT, () -> x.advance(wrong));
        }
        for (int i = 1; i <= 27; i++) {
            Check.due("advance(3600)", x.advance(3600), 3600 * i);
        }
        Check.dueRefused(x, "to 100000", Check.STATE, () -> x.advance(2800));
        Check.dueRefused(x, "to 100800", Check.STATE, () -> x.advance(3600));
        Check.due("to 99998", x.advance(2798), 99998);
        Check.dueRefused(x, "to 100000", Check.STATE, () -> x.advance(2));
        Check.due("to 99999", x.advance(1), 99999);
        Check.dueRefused(x, "one more day", Check.STATE, () -> x.advance(1));
        Check.dueRefused(x, "a wrong number goes first", Check.ARGUMENT, () -> x.advance(0));
        Check.dueRefused(x, "a wrong number goes first", Check.ARGUMENT, () -> x.advance(3601));
        x.bill(0);
        Check.due("a date", x.invoice(0, 1), 99999);
        x.credit(0, 1);
        Check.due("the date of a note", x.note(0, 2), 99999);
        // "Today is day 0 at first and behind load()."
        Check.load(x, TEXT);
        Check.due("today behind load", x.count(5), 0);
        Check.due("today at first", new Dues().count(5), 0);
        x.undo();
        Check.due("today behind undo", x.count(5), 99999);
    }

    // overdue: "a date that is at least so many days before today", "days: 0 to 3599"
    private static void overdueByDays() {
        Check.due("of an empty ledger", new Dues().overdue(0), 0);
        Dues x = Check.loaded(TEXT);
        x.bill(0);
        Check.due("of today", x.overdue(0), 1);
        Check.due("of yesterday", x.overdue(1), 0);
        x.advance(1);
        Check.due("at least 1 day", x.overdue(1), 1);
        Check.due("at least 2 days", x.overdue(2), 0);
        x.advance(3597);
        Check.due("3598 days ago", x.overdue(3598), 1);
        Check.due("not yet 3599 days ago", x.overdue(3599), 0);
        x.advance(1);
        Check.due("3599 days ago", x.overdue(3599), 1);
        x.advance(3600);
        Check.due("more than 3599 days ago", x.overdue(3599), 1);
        x.addCall(1, 0, 0, 0);
        x.bill(1);
        Check.due("a new one", x.overdue(1), 1);
        Check.due("with a new one", x.overdue(0), 2);
        // "open, in part or all"
        x.pay(0, 127);
        Check.due("in part", x.overdue(3599), 1);
        x.pay(0, 1);
        Check.due("paid", x.overdue(0), 1);
        x.credit(1, 7);
        Check.due("credited", x.overdue(0), 0);
        for (int wrong : new int[] {-1, 3600, Integer.MIN_VALUE, Integer.MAX_VALUE}) {
            Check.dueRefused(x, "overdue(" + wrong + ")", Check.ARGUMENT, () -> x.overdue(wrong));
        }
    }

    // revenue: "the sum of this line over all invoices for calls of this year in which it is not credited"
    private static void revenueOfYears() {
        Dues x = Check.loaded(TARIFF + "ship a tons 100;ship b tons 100;call a 359 to 388 waste 0;call b 360 to 360 waste 0;"
                + "call a 3239 to 3239 waste 0;call b 3240 to 3240 waste 0;call a 3599 to 3628 waste 0;");
        for (int year = 0; year <= 9; year++) {
            Check.due("revenue without invoices", x.revenue(year, 0), 0);
        }
        x.advance(3600);
        x.billAll(0);
        x.billAll(1);
        int[] years = {1, 1, 0, 0, 0, 0, 0, 0, 1, 2};
        for (int year = 0; year <= 9; year++) {
            Check.due("dues of year " + year, x.revenue(year, 0), 100L * years[year]);
            Check.due("rebates of year " + year, x.revenue(year, 1), 0);
            Check.due("waste of year " + year, x.revenue(year, 2), 5L * years[year]);
            Check.due("lay days of year " + year, x.revenue(year, 3), year == 0 || year == 9 ? 196 : 0);
        }
        x.credit(0, 9);
        Check.due("credited dues", x.revenue(0, 0), 0);
        Check.due("credited lay days", x.revenue(0, 3), 0);
        Check.due("a line that is not credited", x.revenue(0, 2), 5);
        for (int wrong : new int[] {-1, 10, Integer.MIN_VALUE, Integer.MAX_VALUE}) {
            Check.dueRefused(x, "revenue of year " + wrong, Check.ARGUMENT, () -> x.revenue(wrong, 0));
        }
        for (int wrong : new int[] {-1, 4, Integer.MIN_VALUE, Integer.MAX_VALUE}) {
            Check.dueRefused(x, "revenue of line " + wrong, Check.ARGUMENT, () -> x.revenue(0, wrong));
        }
        Dues most = Check.loaded("band 0 rate 999;rebate 2 percent 100;ship a tons 9999;");
        for (int i = 0; i < 40; i++) {
            most.addCall(0, 0, 0, 0);
        }
        most.billAll(0);
        Check.due("the greatest revenue", most.revenue(0, 0), 40 * 9989001L);
        Check.due("the least revenue", most.revenue(0, 1), -39 * 9989001L);
    }

    // writeStatement: "for each of its invoices, in ascending order, ...; its balance"; "Numbers below 0 have a minus sign."
    private static void statements() {
        Dues x = Check.loaded(TEXT + "call abcdef 0 to 0 waste 0;");
        Check.due("without invoices", Check.statement(x, 1), "abcdef\n0\n");
        Check.due("its length", x.writeStatement(1), 9);
        x.bill(1);
        x.bill(0);
        Check.due("one invoice", Check.statement(x, 1), "abcdef\n0 14 14\n14\n");
        x.credit(0, 7);
        Check.due("a net of 0", Check.statement(x, 1), "abcdef\n0 0 0\n0\n");
        x.pay(0, 129);
        Check.due("a balance of -1", Check.statement(x, 0), "a\n1 128 0\n-1\n");
        x.addCall(0, 0, 0, 0);
        x.bill(2);
        x.credit(2, 5);
        Check.due("a net below 0", Check.statement(x, 0), "a\n1 128 0\n2 -10 0\n-11\n");
        for (int ship : new int[] {-1, 2}) {
            Check.dueThrow("writeStatement(" + ship + ")", Check.INDEX, () -> x.writeStatement(ship));
            Check.due("the output stays", Check.rest(x), "a\n1 128 0\n2 -10 0\n-11\n");
        }
    }

    // The longest output: 60 invoices of the greatest net, the greatest payments.
    private static void fullStatement() {
        Dues x = Check.loaded("band 0 rate 999;waste fixed 9999 free 0 price 999;lay free 1 rate 9999;"
                + "ship abcdef tons 9999;");
        for (int i = 0; i < 40; i++) {
            x.addCall(0, 0, 29, 999);
            x.bill(i);
        }
        for (int i = 0; i < 20; i++) {
            x.credit(i, 7);
            x.bill(i);
        }
        StringBuilder unpaid = new StringBuilder("abcdef\n");
        StringBuilder paid = new StringBuilder("abcdef\n");
        long sum = 0;
        for (int i = 0; i < 60; i++) {
            int net = i < 20 ? 289971 : i < 40 ? 11286972 : 10997001;
            sum += net;
            unpaid.append(i).append(' ').append(net).append(' ').append(net).append('\n');
            paid.append(i).append(' ').append(net).append(" 0\n");
        }
        Check.due("60 invoices", Check.statement(x, 0), unpaid.append(sum).append('\n').toString());
        for (int i = 0; i < 200; i++) {
            x.pay(0, 1000000000);
        }
        Check.due("60 paid invoices", Check.statement(x, 0), paid.append(sum - 200000000000L).append('\n').toString());
    }

    // writeInvoice: "a line for each line that the invoice has, in ascending order"
    private static void invoiceLines() {
        String[] lines = {"dues 100\n", "rebate 0\n", "waste 7\n", "lay 21 days 2 3 4\n"};
        int[] amounts = {100, 0, 7, 21};
        for (int set = 1; set <= 15; set++) {
            Dues x = Check.loaded(TEXT);
            x.bill(0);
            x.credit(0, set);
            x.advance(3600);
            x.bill(0);
            x.pay(0, 1000);
            StringBuilder due = new StringBuilder("invoice 1 ship a call 0 date 3600\n");
            int net = 0;
            for (int line = 0; line < 4; line++) {
                if ((set >> line & 1) == 1) {
                    due.append(lines[line]);
                    net += amounts[line];
                }
            }
            due.append("net ").append(net).append(" open 0\n");
            Check.due("the lines " + set, Check.invoiceSheet(x, 1), due.toString());
            Check.due("its length", x.writeInvoice(1), due.length());
        }
    }

    // "for each day, in ascending order, a space and its number, with the byte ? behind it if it is pending, or the
    // byte - if it is upheld"
    private static void daysOfAnInvoice() {
        Dues x = Check.loaded("lay free 0 rate 9999;ship abcdef tons 1;");
        for (int i = 0; i < 40; i++) {
            x.addCall(0, 0, 29, 0);
        }
        x.billAll(0);
        x.advance(1);
        StringBuilder due = new StringBuilder("invoice 39 ship abcdef call 39 date 0\ndues 0\nrebate 0\nwaste 0\n");
        due.append("lay 299970 days");
        for (int day = 0; day < 30; day++) {
            x.dispute(39, day);
            if (day % 3 == 0) {
                x.settle(39, day, true);
            } else if (day % 3 == 1) {
                x.settle(39, day, false);
            }
            due.append(' ').append(day).append(day % 3 == 0 ? "-" : day % 3 == 1 ? "" : "?");
        }
        Check.due("30 days", Check.invoiceSheet(x, 39), due + " now 99990\nnet 299970 open 299970\n");
        for (int day = 1; day < 30; day += 3) {
            x.dispute(39, day);
        }
        Check.due("no day is left", Check.invoiceSheet(x, 39).contains(" now 0\n"), true);
        x.credit(39, 8);
        String sheet = Check.invoiceSheet(x, 39);
        Check.due("credited days are written, too", sheet.contains(" 0- 1? 2? 3- 4? "), true);
        Check.due("the last one", sheet.contains(" 27- 28? 29? credited\nnet 0 open 0\n"), true);
    }

    // "then, if it is credited, a space and the word credited, else, if the rebuilt amount is another one, a space,
    // the word now, a space and that amount"
    private static void creditedOrNow() {
        Dues x = Check.loaded(TEXT);
        x.addCall(0, 0, 0, 0);
        x.bill(1);
        Check.due("nothing is another one", Check.invoiceSheet(x, 0),
                "invoice 0 ship a call 1 date 0\ndues 100\nrebate -10\nwaste 5\nnet 95 open 95\n");
        x.setTons(0, 1);
        x.setWaste(1, 999);
        Check.due("all are", Check.invoiceSheet(x, 0),
                "invoice 0 ship a call 1 date 0\ndues 100 now 1\nrebate -10 now 0\nwaste 5 now 1983\nnet 95 open 95\n");
        x.setTons(0, 9999);
        x.credit(0, 5);
        Check.due("credited goes first", Check.invoiceSheet(x, 0),
                "invoice 0 ship a call 1 date 0\ndues 100 credited\nrebate -10 now -999\nwaste 5 credited\nnet -10 open 0\n");
        x.credit(0, 2);
        Check.due("all are credited", Check.invoiceSheet(x, 0),
                "invoice 0 ship a call 1 date 0\ndues 100 credited\nrebate -10 credited\nwaste 5 credited\nnet 0 open 0\n");
    }
}
