/**
 * Promises 16 to 25, 40 to 48 and 64, and what section 2 says of years, ranks and rebates: a test for each
 * sentence that names a boundary case. The sentence stands above its test.
 */
final class EdgeCallTest {
    private static final String TEXT = "band 0 rate 2;rebate 2 percent 10;rebate 4 percent 50;rebate 5 percent 20;"
            + "waste fixed 5 free 10 price 2;lay free 2 rate 7;ship a tons 100;ship b tons 9;";

    private EdgeCallTest() {
    }

    public static void main(String[] args) {
        yearOfTheFirstDay();
        ranksOfTheSameDay();
        otherCallsThatCount();
        rebateOfARank();
        cancelledCalls();
        daysOfOneCall();
        amountsIfNothingWasBilled();
        rebatesOfAYear();
        quotesAtTheEdges();
        quoteWithoutRoom();
        callsToRebateEdges();
        callsToRebateBeyondTheLimit();
        worthEdges();
        busiestYearEdges();
        fortyCalls();
        leastAndGreatestCalls();
        cancelNotBilled();
        cancelLeft();
        wasteAndTons();
        bestDayEarliest();
        bestDayEdges();
        bestDayOfTwoYears();
        askingChangesNothing();
        Check.finish();
    }

    // "A year has 360 days; a call belongs to the year of its first day, year 0 has the days 0 to 359."
    private static void yearOfTheFirstDay() {
        for (int year = 0; year <= 9; year++) {
            int start = year * 360;
            Dues x = Check.loaded(TEXT);
            x.addCall(0, start, start + 29, 0);
            x.addCall(0, start + 359, start + 388, 0);
            for (int other = 0; other <= 9; other++) {
                Check.due("calls of year " + other, x.calls(0, other), other == year ? 2 : 0);
                Check.due("rebates of year " + other, x.rebates(0, other), other == year ? -20 : 0);
            }
            Check.due("busiestYear", x.busiestYear(0), year);
            Check.due("the second rank", x.call(1, 5), 2);
            if (year > 0) {
                x.addCall(0, start - 1, start + 28, 0);
                Check.due("a call from the day before", x.call(2, 5), 1);
                Check.due("the rank in the year stays", x.call(0, 5), 1);
                Check.due("calls of the year before", x.calls(0, year - 1), 1);
            }
        }
    }

    // "that ... have an earlier first day, or the same one and a lower number"
    private static void ranksOfTheSameDay() {
        Dues x = Check.loaded(TEXT);
        for (int i = 0; i < 40; i++) {
            x.addCall(0, 359, 359, 0);
            Check.due("the rank of the last one", x.call(i, 5), i + 1);
            Check.due("the rank of the first one", x.call(0, 5), 1);
        }
        Dues y = Check.loaded(TEXT);
        for (int i = 0; i < 40; i++) {
            y.addCall(0, 39 - i, 68 - i, 0);
            Check.due("the rank of the earliest one", y.call(i, 5), 1);
            Check.due("the rank of the latest one", y.call(0, 5), i + 1);
        }
    }

    // "the number of other calls of its ship in its year that are not cancelled"
    private static void otherCallsThatCount() {
        Dues x = Check.loaded(TEXT);
        x.addCall(0, 400, 400, 0);
        x.addCall(1, 399, 399, 0);
        Check.due("another ship", x.call(0, 5), 1);
        x.addCall(0, 359, 388, 0);
        Check.due("another year before", x.call(0, 5), 1);
        x.addCall(0, 720, 720, 0);
        Check.due("another year behind", x.call(0, 5), 1);
        x.addCall(0, 401, 401, 0);
        Check.due("a later one", x.call(0, 5), 1);
        x.addCall(0, 400, 400, 0);
        Check.due("the same day and a higher number", x.call(0, 5), 1);
        x.addCall(0, 360, 360, 0);
        Check.due("the first day of the year", x.call(0, 5), 2);
        x.cancel(6);
        Check.due("a cancelled one", x.call(0, 5), 1);
    }

    // "Its rebate is the percentage of the last rebate whose number is not above its rank, 0 if there is none"
    private static void rebateOfARank() {
        Dues x = Check.loaded(TEXT);
        int[] percents = {0, 10, 10, 50, 20, 20};
        for (int i = 0; i < percents.length; i++) {
            Check.due("quote at rank " + (i + 1), x.quote(0, 0, 0, 0), 200 - 2 * percents[i] + 5);
            x.addCall(0, 0, 0, 0);
            Check.due("percentage at rank " + (i + 1), x.call(i, 6), percents[i]);
            Check.due("amount at rank " + (i + 1), x.amount(i, 1), -2 * percents[i]);
        }
        Dues none = Check.loaded("band 0 rate 2;ship a tons 1;call a 0 to 0 waste 0;call a 0 to 0 waste 0;");
        Check.due("percentage without rebates", none.call(1, 6), 0);
        Dues last = Check.loaded("band 0 rate 2;rebate 40 percent 100;rebate 41 percent 50;ship a tons 1;");
        for (int i = 0; i < 40; i++) {
            last.addCall(0, 1, 1, 0);
            Check.due("percentage of call " + i, last.call(i, 6), i == 39 ? 100 : 0);
        }
        Check.due("quote at rank 41", last.quote(0, 1, 1, 0), 1);
    }

    // "a cancelled call has the rank 0 and the rebate 0"; callTotal: "0 for a cancelled call";
    // amount: "lines of a cancelled call, too (its rebate is 0)"
    private static void cancelledCalls() {
        Dues x = Check.loaded(TEXT + "call a 0 to 4 waste 11;call a 1 to 5 waste 12;");
        Check.due("the rank before", x.call(1, 5), 2);
        x.dispute(1, 2);
        x.cancel(1);
        int[] due = {0, 1, 5, 12, 1, 0, 0, 0};
        for (int what = 0; what < due.length; what++) {
            Check.due("call(1, " + what + ")", x.call(1, what), due[what]);
        }
        int[] amounts = {200, 0, 9, 14};
        for (int line = 0; line < 4; line++) {
            Check.due("amount(1, " + line + ")", x.amount(1, line), amounts[line]);
        }
        Check.due("callTotal", x.callTotal(1), 0);
        Check.due("worth", x.worth(1), 0);
        Check.due("its days stay lay days", x.layDays(1), 0x1c);
        Check.due("its pending day stays", x.pending(1), 4);
        Check.due("rebates of the year", x.rebates(0, 0), 0);
        x.cancel(0);
        Check.due("calls of the year", x.calls(0, 0), 0);
        Check.due("rebates of no call", x.rebates(0, 0), 0);
        Check.due("busiestYear of no call", x.busiestYear(0), 0);
        Check.due("the next one has the first rank", x.quote(0, 9, 9, 0), 205);
    }

    // layDays, pending, upheld, billedDays, billable: "the set of its days"
    private static void daysOfOneCall() {
        Dues x = Check.loaded("lay free 0 rate 1;ship a tons 1;call a 0 to 29 waste 0;call a 0 to 0 waste 0;");
        int all = 0x3fffffff;
        dueDays(x, 0, all, 0, 0, 0, all);
        dueDays(x, 1, 1, 0, 0, 0, 1);
        x.dispute(0, 0);
        x.dispute(0, 29);
        dueDays(x, 0, all, 1 << 29 | 1, 0, 0, all & ~1 & ~(1 << 29));
        x.settle(0, 29, true);
        dueDays(x, 0, all, 1, 1 << 29, 0, all & ~1 & ~(1 << 29));
        x.settle(0, 0, false);
        dueDays(x, 0, all, 0, 1 << 29, 0, 0x1fffffff);
        x.bill(0);
        dueDays(x, 0, all, 0, 1 << 29, 0x1fffffff, 0);
        x.dispute(0, 0);
        dueDays(x, 0, all, 1, 1 << 29, 0x1fffffff, 0);
        x.credit(0, 8);
        dueDays(x, 0, all, 1, 1 << 29, 0, 0x1ffffffe);
        x.setLay(30, 1);
        dueDays(x, 0, 0, 1, 1 << 29, 0, 0);
        dueDays(x, 1, 0, 0, 0, 0, 0);
    }

    private static void dueDays(Dues x, int call, int lay, int pending, int upheld, int billed, int billable) {
        Check.due("layDays(" + call + ")", x.layDays(call), lay);
        Check.due("pending(" + call + ")", x.pending(call), pending);
        Check.due("upheld(" + call + ")", x.upheld(call), upheld);
        Check.due("billedDays(" + call + ")", x.billedDays(call), billed);
        Check.due("billable(" + call + ")", x.billable(call), billable);
    }

    // amount: "this line if nothing of the call was billed: for line 3 all lay days that are neither pending nor upheld"
    private static void amountsIfNothingWasBilled() {
        Dues x = Check.loaded(TEXT + "call a 0 to 4 waste 11;");
        x.bill(0);
        x.addCall(0, 0, 0, 0);
        int[] due = {200, 0, 7, 21};
        for (int line = 0; line < 4; line++) {
            Check.due("amount(0, " + line + ")", x.amount(0, line), due[line]);
        }
        for (int day = 2; day <= 4; day++) {
            x.dispute(0, day);
            Check.due("amount with pending days", x.amount(0, 3), 7 * (4 - day));
        }
        x.settle(0, 2, true);
        Check.due("amount with an upheld day", x.amount(0, 3), 0);
        x.settle(0, 3, false);
        Check.due("amount with a rejected day", x.amount(0, 3), 7);
        Check.due("callTotal", x.callTotal(0), 214);
        x.setLay(4, 9);
        Check.due("amount with disputed days that are no lay days", x.amount(0, 3), 0);
        x.setLay(0, 9);
        Check.due("amount by the present version", x.amount(0, 3), 27);
    }

    // rebates: "the sum of line 1 over all calls of the ship in this year by amount()"
    private static void rebatesOfAYear() {
        Dues x = Check.loaded("band 0 rate 999;rebate 2 percent 100;ship a tons 9999;ship b tons 9999;");
        for (int year = 0; year <= 9; year++) {
            Check.due("rebates of no call", x.rebates(0, year), 0);
        }
        for (int i = 0; i < 40; i++) {
            x.addCall(0, 3599, 3599, 0);
            Check.due("rebates above an int", x.rebates(0, 9), -9989001L * i);
        }
        // The first number need not have the first rank.
        Dues y = Check.loaded(TEXT + "call a 719 to 719 waste 0;call a 360 to 360 waste 0;");
        Check.due("the rebate of call 0", y.rebates(0, 1), -20);
        Check.due("rebates of the year before", x.rebates(0, 8), 0);
        Check.due("rebates of another ship", x.rebates(1, 9), 0);
        for (int year : new int[] {-1, 10}) {
            Check.dueRefused(x, "rebates of year " + year, Check.ARGUMENT, () -> x.rebates(0, year));
            Check.dueRefused(x, "calls of year " + year, Check.ARGUMENT, () -> x.calls(0, year));
            Check.dueRefused(x, "callsToRebate of year " + year, Check.ARGUMENT, () -> x.callsToRebate(0, year));
        }
    }

    // quote: "first: 0 to 3599", "last: from first to 29 days later", "waste: 0 to 999"
    private static void quotesAtTheEdges() {
        Dues x = Check.loaded(TEXT);
        for (int first : new int[] {0, 1, 3598, 3599}) {
            Check.due("one day", x.quote(0, first, first, 0), 205);
            Check.due("two days", x.quote(0, first, first + 1, 0), 205);
            Check.due("three days", x.quote(0, first, first + 2, 10), 212);
            Check.due("30 days", x.quote(0, first, first + 29, 999), 205 + 7 * 28 + 2 * 989);
            Check.dueThrow("31 days", Check.ARGUMENT, () -> x.quote(0, first, first + 30, 0));
            Check.dueThrow("no day", Check.ARGUMENT, () -> x.quote(0, first, first - 1, 0));
        }
        Check.dueThrow("a day too late", Check.ARGUMENT, () -> x.quote(0, 3600, 3600, 0));
        Check.dueThrow("a day too early", Check.ARGUMENT, () -> x.quote(0, -1, 0, 0));
        // Where first + 29 would wrap around.
        for (int last : new int[] {Integer.MIN_VALUE, Integer.MIN_VALUE + 28, Integer.MAX_VALUE, 0}) {
            Check.dueThrow("the last int as the first day", Check.ARGUMENT, () -> x.quote(0, Integer.MAX_VALUE, last, 0));
            Check.dueThrow("the least int as the first day", Check.ARGUMENT, () -> x.quote(0, Integer.MIN_VALUE, last, 0));
        }
    }

    // quote: "what callTotal() of such a call would be now, if it was added (also if there is no room for it)"
    private static void quoteWithoutRoom() {
        Dues x = Check.loaded(TEXT);
        for (int i = 0; i < 40; i++) {
            int first = i * 37 % 360;
            int quote = x.quote(0, first, first + i % 30, i * 20);
            int call = x.addCall(0, first, first + i % 30, i * 20);
            Check.due("callTotal as it was quoted", x.callTotal(call), quote);
        }
        Check.due("quote without room", x.quote(0, 359, 359, 0), 200 - 40 + 5);
        Check.due("quote without room, as the first one", x.quote(0, 360, 389, 0), 205 + 7 * 28);
        Check.due("nothing was added", x.count(1), 40);
        x.cancel(0);
        x.cancel(1);
        Check.dueThrow("cancelled ones make no room", Check.STATE, () -> x.addCall(0, 0, 0, 0));
    }

    // callsToRebate: "until one of them has a greater rebate than its last call of this year (than 0 if it has none);
    // NONE if no number is enough"
    private static void callsToRebateEdges() {
        Dues x = Check.loaded("rebate 2 percent 0;rebate 3 percent 10;rebate 5 percent 10;rebate 6 percent 11;"
                + "ship a tons 1;");
        int[] due = {3, 2, 1, 3, 2, 1, PortDues.NONE, PortDues.NONE};
        for (int calls = 0; calls < due.length; calls++) {
            Check.due("with " + calls + " calls", x.callsToRebate(0, 0), due[calls]);
            Check.due("in the next year", x.callsToRebate(0, 1), 3);
            x.addCall(0, 359, 359, 0);
        }
        Check.due("in the last year", x.callsToRebate(0, 9), 3);
        // The rebate falls before it grows: the last call has less than those before it.
        Dues y = Check.loaded("rebate 2 percent 50;rebate 3 percent 5;rebate 6 percent 6;rebate 7 percent 100;"
                + "ship a tons 1;");
        int[] falls = {2, 1, 5, 3, 2, 1, 1, PortDues.NONE};
        for (int calls = 0; calls < falls.length; calls++) {
            Check.due("falling, with " + calls + " calls", y.callsToRebate(0, 3), falls[calls]);
            y.addCall(0, 1080, 1109, 0);
        }
        y.cancel(0);
        y.cancel(7);
        Check.due("cancelled ones are none", y.callsToRebate(0, 3), 1);
        Dues none = Check.loaded("ship a tons 1;");
        Check.due("without rebates", none.callsToRebate(0, 0), PortDues.NONE);
        Dues zero = Check.loaded("rebate 2 percent 0;rebate 99 percent 0;ship a tons 1;");
        Check.due("rebates of 0", zero.callsToRebate(0, 9), PortDues.NONE);
    }

    // callsToRebate: "the limit of 40 calls does not matter"
    private static void callsToRebateBeyondTheLimit() {
        Dues x = Check.loaded("rebate 41 percent 1;rebate 99 percent 2;ship a tons 1;ship b tons 1;");
        for (int calls = 0; calls <= 40; calls++) {
            Check.due("with " + calls + " calls", x.callsToRebate(0, 0), 41 - calls);
            if (calls < 40) {
                x.addCall(0, 0, 0, 0);
            }
        }
        Check.due("another ship", x.callsToRebate(1, 0), 41);
        x.setPercent(0, 0);
        Check.due("up to the 99th", x.callsToRebate(0, 0), 59);
        Check.due("up to the 99th of another ship", x.callsToRebate(1, 9), 99);
        x.setPercent(1, 0);
        Check.due("rebates of 0", x.callsToRebate(0, 0), PortDues.NONE);
    }

    // worth: "by how much the sum of callTotal() over all calls of its ship would be less if it was cancelled"
    private static void worthEdges() {
        Dues x = Check.loaded(TEXT);
        for (int i = 0; i < 7; i++) {
            x.addCall(0, 359, 359 + i, i * 4);
            x.addCall(1, 359, 359, 0);
        }
        x.addCall(0, 360, 360, 0);
        for (int call = 0; call < x.count(1); call++) {
            int ship = x.call(call, 0);
            long before = sumOfTotals(x, ship);
            int worth = x.worth(call);
            x.cancel(call);
            Check.due("worth(" + call + ")", worth, before - sumOfTotals(x, ship));
            Check.due("worth of a cancelled call", x.worth(call), 0);
            x.undo();
        }
        int before = x.worth(0);
        x.bill(0);
        Check.dueThrow("cancel of a billed call", Check.STATE, () -> x.cancel(0));
        Check.due("worth of a call that cannot be cancelled", x.worth(0), before);
        Dues one = Check.loaded(TEXT + "call a 0 to 0 waste 0;");
        Check.due("the only call", one.worth(0), 205);
        Dues free = Check.loaded("ship a tons 1;call a 0 to 29 waste 999;");
        Check.due("a call for nothing", free.worth(0), 0);
    }

    private static long sumOfTotals(Dues x, int ship) {
        long sum = 0;
        for (int call = 0; call < x.count(1); call++) {
            sum += x.call(call, 0) == ship ? x.callTotal(call) : 0;
        }
        return sum;
    }

    // busiestYear: "the most calls that are not cancelled, the earliest one of several"
    private static void busiestYearEdges() {
        Dues x = Check.loaded(TEXT);
        Check.due("without calls", x.busiestYear(0), 0);
        for (int year = 9; year >= 0; year--) {
            x.addCall(0, year * 360 + 359, year * 360 + 388, 0);
            Check.due("one call from year " + year, x.busiestYear(0), year);
        }
        x.addCall(0, 3240, 3240, 0);
        Check.due("two in the last year", x.busiestYear(0), 9);
        x.addCall(0, 1799, 1799, 0);
        Check.due("two in year 4, too", x.busiestYear(0), 4);
        x.cancel(11);
        Check.due("without the cancelled one", x.busiestYear(0), 9);
        Check.due("another ship", x.busiestYear(1), 0);
    }

    // addCall: "IllegalStateException if there are 40 calls"
    private static void fortyCalls() {
        Dues x = Check.loaded(TEXT + "call a 0 to 0 waste 0;");
        for (int i = 1; i < 40; i++) {
            Check.due("addCall", x.addCall(i % 2, i, i, i), i);
        }
        Check.due("count(1)", x.count(1), 40);
        Check.dueRefused(x, "the 41st call", Check.STATE, () -> x.addCall(0, 0, 0, 0));
        Check.dueRefused(x, "a wrong ship goes first", Check.INDEX, () -> x.addCall(2, -1, 0, 0));
        Check.dueRefused(x, "a wrong first day goes first", Check.ARGUMENT, () -> x.addCall(0, 3600, 3600, 0));
        Check.dueRefused(x, "a wrong last day goes first", Check.ARGUMENT, () -> x.addCall(0, 0, 30, 0));
        Check.dueRefused(x, "a wrong waste goes first", Check.ARGUMENT, () -> x.addCall(0, 0, 0, -1));
        x.cancel(39);
        Check.dueRefused(x, "a cancelled call counts, too", Check.STATE, () -> x.addCall(0, 0, 0, 0));
        x.undo();
        x.undo();
        Check.due("addCall behind undo", x.addCall(0, 7, 7, 7), 39);
        Check.due("its first day", x.call(39, 1), 7);
        Check.due("it is not cancelled", x.call(39, 4), 0);
        Check.load(x, "ship a tons 1;");
        Check.due("addCall behind load", x.addCall(0, 0, 0, 0), 0);
    }

    // addCall: "first: 0 to 3599", "last: from first to 29 days later", "waste: 0 to 999"
    private static void leastAndGreatestCalls() {
        int[][] calls = {{0, 0, 0}, {0, 29, 999}, {3599, 3599, 0}, {3599, 3628, 999}};
        Dues x = Check.loaded(TEXT);
        for (int i = 0; i < calls.length; i++) {
            int[] c = calls[i];
            Check.due("addCall", x.addCall(1, c[0], c[1], c[2]), i);
            for (int what = 1; what <= 3; what++) {
                Check.due("call(" + i + ", " + what + ")", x.call(i, what), c[what - 1]);
            }
        }
        Check.dueRefused(x, "31 days", Check.ARGUMENT, () -> x.addCall(1, 3599, 3629, 0));
        Check.dueRefused(x, "no day", Check.ARGUMENT, () -> x.addCall(1, 3599, 3598, 0));
        for (int last : new int[] {Integer.MIN_VALUE, Integer.MIN_VALUE + 28, Integer.MAX_VALUE}) {
            Check.dueRefused(x, "a wrap-around", Check.ARGUMENT, () -> x.addCall(1, Integer.MAX_VALUE, last, 0));
        }
    }

    // cancel: "IllegalStateException if it is cancelled, or one of its lines 0 to 2 or of its days is billed"
    private static void cancelNotBilled() {
        for (int credited = 0; credited <= 15; credited++) {
            Dues x = Check.loaded(TEXT + "call a 0 to 4 waste 11;");
            x.bill(0);
            if (credited > 0) {
                x.credit(0, credited);
            }
            if (credited == 15) {
                Check.due("cancel with all credited", x.cancel(0), 0);
            } else {
                Check.dueRefused(x, "cancel with the lines " + credited + " credited", Check.STATE, () -> x.cancel(0));
            }
        }
        Dues y = Check.loaded(TEXT + "call a 0 to 4 waste 11;call a 0 to 4 waste 11;");
        y.bill(1);
        y.dispute(0, 2);
        Check.due("the lines of another call, a pending day", y.cancel(0), 1);
        Check.dueRefused(y, "cancel once more", Check.STATE, () -> y.cancel(0));
        // One of several invoices is enough.
        Dues z = Check.loaded(TEXT + "call a 0 to 4 waste 11;");
        z.bill(0);
        z.credit(0, 15);
        z.bill(0);
        Check.dueRefused(z, "billed once more", Check.STATE, () -> z.cancel(0));
    }

    // cancel: "Returns how many calls that are not cancelled the ship has left."
    private static void cancelLeft() {
        Dues x = Check.loaded(TEXT);
        for (int i = 0; i < 40; i++) {
            x.addCall(i % 2, i * 90, i * 90, 0);
        }
        for (int left = 19; left >= 0; left--) {
            Check.due("cancel", x.cancel(39 - 2 * left), left);
        }
        Check.due("the other ship had all", x.cancel(38), 19);
        Check.due("without call 0", x.cancel(0), 18);
    }

    // setWaste: "waste: 0 to 999", "Returns the previous waste."; setTons: "tons: 1 to 9999", "Returns the previous tonnage."
    private static void wasteAndTons() {
        Dues x = Check.loaded(TEXT + "call b 0 to 0 waste 999;");
        int[] wastes = {999, 0, 999, 10, 11, 11};
        for (int i = 1; i < wastes.length; i++) {
            Check.due("setWaste", x.setWaste(0, wastes[i]), wastes[i - 1]);
            Check.due("call(0, 3)", x.call(0, 3), wastes[i]);
        }
        int[] tons = {9, 1, 9999, 1, 1};
        for (int i = 1; i < tons.length; i++) {
            Check.due("setTons", x.setTons(1, tons[i]), tons[i - 1]);
            Check.due("tons(1)", x.tons(1), tons[i]);
            Check.due("amount", x.amount(0, 0), 2 * tons[i]);
            Check.due("tons(0) stays", x.tons(0), 100);
        }
        Check.dueRefused(x, "setTons to 0", Check.ARGUMENT, () -> x.setTons(1, 0));
        Check.dueRefused(x, "setTons to 10000", Check.ARGUMENT, () -> x.setTons(1, 10000));
        Check.dueRefused(x, "setWaste to -1", Check.ARGUMENT, () -> x.setWaste(0, -1));
        Check.dueRefused(x, "setWaste to 1000", Check.ARGUMENT, () -> x.setWaste(0, 1000));
    }

    // bestDay: "Returns the first day of the call, from from to to; the earliest one of several."
    private static void bestDayEarliest() {
        Dues x = Check.loaded(TEXT);
        for (int[] range : new int[][] {{0, 0}, {0, 99}, {5, 5}, {261, 359}, {300, 399}, {3500, 3599}, {3599, 3599}}) {
            Check.due("all days are the same", x.bestDay(0, range[0], range[1], 30, 999), range[0]);
        }
        // In year 1 the further call has the second rank: only its days are better.
        x.addCall(0, 500, 500, 0);
        Check.due("to the day before", x.bestDay(0, 300, 359, 1, 0), 300);
        Check.due("to the first better day", x.bestDay(0, 300, 360, 1, 0), 360);
        Check.due("behind it", x.bestDay(0, 300, 361, 1, 0), 360);
        Check.due("from the last day before", x.bestDay(0, 359, 360, 1, 0), 360);
        Check.due("from the better day", x.bestDay(0, 360, 459, 1, 0), 360);
        Check.due("over the day of the call", x.bestDay(0, 450, 549, 1, 0), 450);
        Check.due("over the end of the year", x.bestDay(0, 700, 799, 1, 0), 700);
        Check.due("from the last better day", x.bestDay(0, 719, 818, 1, 0), 719);
        Check.due("behind the year", x.bestDay(0, 720, 819, 1, 0), 720);
        Check.due("another ship", x.bestDay(1, 300, 361, 1, 0), 300);
    }

    // bestDay: "from: 0 to 3599", "to: from to from + 99, at most 3599", "days: 1 to 30", "waste: 0 to 999"
    private static void bestDayEdges() {
        Dues x = Check.loaded(TEXT + "call a 3400 to 3400 waste 0;");
        Check.due("from 0 to 99", x.bestDay(0, 0, 99, 1, 0), 0);
        Check.dueThrow("from 0 to 100", Check.ARGUMENT, () -> x.bestDay(0, 0, 100, 1, 0));
        Check.dueThrow("from 0 to -1", Check.ARGUMENT, () -> x.bestDay(0, 0, -1, 1, 0));
        Check.due("from 3499 to 3598", x.bestDay(0, 3499, 3598, 1, 0), 3499);
        Check.due("from 3500 to 3599", x.bestDay(0, 3500, 3599, 30, 999), 3500);
        Check.dueThrow("from 3501 to 3600", Check.ARGUMENT, () -> x.bestDay(0, 3501, 3600, 1, 0));
        Check.due("from 3599 to 3599", x.bestDay(0, 3599, 3599, 30, 0), 3599);
        Check.dueThrow("from 3599 to 3600", Check.ARGUMENT, () -> x.bestDay(0, 3599, 3600, 1, 0));
        Check.dueThrow("from 3600 to 3600", Check.ARGUMENT, () -> x.bestDay(0, 3600, 3600, 1, 0));
        Check.dueThrow("from -1 to 0", Check.ARGUMENT, () -> x.bestDay(0, -1, 0, 1, 0));
        for (int to : new int[] {Integer.MIN_VALUE, Integer.MIN_VALUE + 98, Integer.MAX_VALUE}) {
            Check.dueThrow("a wrap-around", Check.ARGUMENT, () -> x.bestDay(0, Integer.MAX_VALUE, to, 1, 0));
        }
        for (int days : new int[] {0, 31}) {
            Check.dueThrow(days + " days", Check.ARGUMENT, () -> x.bestDay(0, 0, 0, days, 0));
        }
        for (int waste : new int[] {-1, 1000}) {
            Check.dueThrow("waste " + waste, Check.ARGUMENT, () -> x.bestDay(0, 0, 0, 1, waste));
        }
        for (int ship : new int[] {-1, 2}) {
            Check.dueThrow("ship " + ship, Check.INDEX, () -> x.bestDay(ship, -1, -2, 0, -1));
        }
    }

    // bestDay: "by which the sum of callTotal() over all its calls would be the least with it (ranks of other calls
    // can change by it; it does not matter whether there is room for it)"
    private static void bestDayOfTwoYears() {
        Dues x = Check.loaded(TEXT);
        int[] rebates = {0, 20, 20, 100, 40, 40};
        for (int before = 0; before < 6; before++) {
            for (int behind = 0; behind < 6; behind++) {
                Dues y = Check.loaded(TEXT);
                for (int i = 0; i < before; i++) {
                    y.addCall(0, 340, 340, 0);
                }
                for (int i = 0; i < behind; i++) {
                    y.addCall(0, 380, 380, 0);
                }
                int due = rebates[behind] > rebates[before] ? 360 : 330;
                Check.due(before + " calls and then " + behind, y.bestDay(0, 330, 390, 1, 0), due);
            }
        }
        for (int i = 0; i < 40; i++) {
            x.addCall(i == 39 ? 1 : 0, i < 37 ? 0 : 361, i < 37 ? 0 : 361, 0);
        }
        // 37 calls in year 0: 20 percent; 2 calls in year 1: 10 percent; no room for more.
        Check.due("without room", x.bestDay(0, 359, 458, 30, 0), 359);
        Check.due("without room, behind the year", x.bestDay(0, 360, 459, 30, 0), 360);
        x.setPercent(0, 30);
        Check.due("without room, a better year", x.bestDay(0, 359, 458, 30, 0), 360);
        Check.due("another ship", x.bestDay(1, 300, 399, 30, 0), 360);
    }

    // "Methods that ask what would be do not change anything."
    private static void askingChangesNothing() {
        Dues x = asked();
        x.quote(0, 0, 29, 999);
        x.callsToRebate(0, 0);
        x.worth(0);
        x.worth(1);
        x.bestDay(0, 300, 399, 30, 999);
        x.rebuilt(0, 1);
        x.isStale(0);
        x.staleCount();
        x.rebates(0, 0);
        Check.due("all behind the questions", Check.whole(x), Check.whole(asked()));
    }

    private static Dues asked() {
        Dues x = Check.loaded(TEXT + "call a 0 to 4 waste 11;call a 0 to 4 waste 11;call a 500 to 500 waste 0;");
        x.bill(0);
        x.setTons(0, 77);
        x.dispute(0, 3);
        x.writeInvoice(0);
        Check.put(x, "ship q tons 1;");
        return x;
    }
}
