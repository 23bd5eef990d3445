/** Promises 16 to 25, 40 to 48 and 64: ships, calls, their lines, and what would be. */
final class CallTest {
    private static final String TEXT = "band 0 rate 2;band 100 rate 3;rebate 2 percent 10;rebate 4 percent 50;"
            + "waste fixed 5 free 10 price 2;lay free 2 rate 7;ship a tons 150;ship b tons 99;";

    private CallTest() {
    }

    public static void main(String[] args) {
        tons();
        ranks();
        callsOfAYear();
        callValues();
        days();
        amounts();
        rebates();
        quote();
        callsToRebate();
        worth();
        busiestYear();
        addCall();
        cancel();
        setWaste();
        setTons();
        bestDay();
        Check.finish();
    }

    private static void tons() {
        Dues x = Check.loaded(TEXT);
        Check.due("tons(0)", x.tons(0), 150);
        Check.due("tons(1)", x.tons(1), 99);
        for (int ship : Check.outside(0, 1)) {
            Check.dueThrow("tons(" + ship + ")", Check.INDEX, () -> x.tons(ship));
        }
    }

    private static void ranks() {
        Dues x = Check.loaded(TEXT);
        x.addCall(0, 359, 359, 0);
        x.addCall(0, 360, 360, 0);
        x.addCall(0, 10, 12, 0);
        x.addCall(0, 10, 10, 0);
        x.addCall(1, 0, 0, 0);
        x.addCall(0, 0, 29, 0);
        int[] ranks = {4, 1, 2, 3, 1, 1};
        int[] percents = {50, 0, 10, 10, 0, 0};
        for (int i = 0; i < ranks.length; i++) {
            Check.due("rank of " + i, x.call(i, 5), ranks[i]);
            Check.due("percentage of " + i, x.call(i, 6), percents[i]);
        }
        x.cancel(2);
        int[] after = {3, 1, 0, 2, 1, 1};
        for (int i = 0; i < after.length; i++) {
            Check.due("rank behind cancel of " + i, x.call(i, 5), after[i]);
        }
        Check.due("percentage of a cancelled one", x.call(2, 6), 0);
    }

    private static void callsOfAYear() {
        Dues x = Check.loaded(TEXT);
        x.addCall(0, 0, 0, 0);
        x.addCall(0, 359, 380, 0);
        x.addCall(0, 360, 360, 0);
        x.addCall(1, 3599, 3600, 0);
        x.addCall(0, 5, 5, 0);
        x.cancel(4);
        Check.due("calls(0, 0)", x.calls(0, 0), 2);
        Check.due("calls(0, 1)", x.calls(0, 1), 1);
        Check.due("calls(0, 9)", x.calls(0, 9), 0);
        Check.due("calls(1, 9)", x.calls(1, 9), 1);
        for (int ship : Check.outside(0, 1)) {
            Check.dueThrow("calls(" + ship + ", 10)", Check.INDEX, () -> x.calls(ship, 10));
        }
        for (int year : Check.outside(0, 9)) {
            Check.dueThrow("calls(1, " + year + ")", Check.ARGUMENT, () -> x.calls(1, year));
        }
    }

    private static void callValues() {
        Dues x = Check.loaded(TEXT + "call b 7 to 12 waste 40;");
        int[] due = {1, 7, 12, 40, 0, 1, 0, 0};
        for (int what = 0; what < due.length; what++) {
            Check.due("call(0, " + what + ")", x.call(0, what), due[what]);
        }
        x.bill(0);
        Check.due("billed lines", x.call(0, 7), 7);
        x.credit(0, 2);
        Check.due("billed lines behind credit", x.call(0, 7), 5);
        x.bill(0);
        Check.due("billed lines behind bill", x.call(0, 7), 7);
        x.addCall(1, 7, 7, 0);
        x.cancel(1);
        Check.due("cancelled", x.call(1, 4), 1);
        for (int call : Check.outside(0, 1)) {
            Check.dueThrow("call(" + call + ", 8)", Check.INDEX, () -> x.call(call, 8));
        }
        for (int what : Check.outside(0, 7)) {
            Check.dueThrow("call(1, " + what + ")", Check.ARGUMENT, () -> x.call(1, what));
        }
    }

    private static void days() {
        Dues x = Check.loaded(TEXT + "call a 5 to 34 waste 0;call a 5 to 6 waste 0;call a 5 to 7 waste 0;");
        Check.due("lay days of 30 days", x.layDays(0), 0x3ffffffc);
        Check.due("lay days of 2 days", x.layDays(1), 0);
        Check.due("lay days of 3 days", x.layDays(2), 4);
        x.dispute(0, 29);
        x.dispute(0, 2);
        x.dispute(0, 3);
        x.settle(0, 2, true);
        x.settle(0, 3, false);
        Check.due("pending", x.pending(0), 1 << 29);
        Check.due("upheld", x.upheld(0), 4);
        Check.due("billable", x.billable(0), 0x1ffffff8);
        Check.due("nothing is billed", x.billedDays(0), 0);
        x.bill(0);
        Check.due("billed", x.billedDays(0), 0x1ffffff8);
        Check.due("nothing is billable", x.billable(0), 0);
        x.settle(0, 29, false);
        Check.due("billable behind a rejection", x.billable(0), 1 << 29);
        x.bill(0);
        Check.due("billed by two", x.billedDays(0), 0x3ffffff8);
        x.credit(0, 8);
        Check.due("billed behind credit", x.billedDays(0), 1 << 29);
        Check.due("billable behind credit", x.billable(0), 0x1ffffff8);
        x.cancel(2);
        Check.due("lay days of a cancelled call", x.layDays(2), 4);
        Check.due("billable days of a cancelled call", x.billable(2), 4);
        for (int call : Check.outside(0, 2)) {
            Check.dueThrow("layDays(" + call + ")", Check.INDEX, () -> x.layDays(call));
            Check.dueThrow("pending(" + call + ")", Check.INDEX, () -> x.pending(call));
            Check.dueThrow("upheld(" + call + ")", Check.INDEX, () -> x.upheld(call));
            Check.dueThrow("billedDays(" + call + ")", Check.INDEX, () -> x.billedDays(call));
            Check.dueThrow("billable(" + call + ")", Check.INDEX, () -> x.billable(call));
        }
    }

    private static void amounts() {
        Dues x = Check.loaded(TEXT + "call a 10 to 14 waste 12;call a 20 to 25 waste 0;call b 0 to 0 waste 10;");
        int[][] due = {{350, 0, 9, 21}, {350, -35, 5, 28}, {198, 0, 5, 0}};
        int[] totals = {380, 348, 203};
        for (int call = 0; call < 3; call++) {
            for (int line = 0; line < 4; line++) {
                Check.due("amount(" + call + ", " + line + ")", x.amount(call, line), due[call][line]);
            }
            Check.due("callTotal(" + call + ")", x.callTotal(call), totals[call]);
        }
        x.bill(0);
        Check.due("amount of a billed call", x.amount(0, 3), 21);
        Check.due("callTotal of a billed call", x.callTotal(0), 380);
        x.dispute(1, 2);
        x.dispute(1, 4);
        x.settle(1, 4, true);
        Check.due("amount without disputed days", x.amount(1, 3), 14);
        x.cancel(1);
        int[] cancelled = {350, 0, 5, 14};
        for (int line = 0; line < 4; line++) {
            Check.due("amount of a cancelled call, line " + line, x.amount(1, line), cancelled[line]);
        }
        Check.due("callTotal of a cancelled call", x.callTotal(1), 0);
        x.setTons(1, 7);
        x.setPercent(0, 33);
        x.addCall(1, 0, 0, 0);
        Check.due("a rebate is rounded towards 0", x.amount(3, 1), -4);
        x.setTons(1, 9999);
        x.setRate(0, 999);
        x.setRate(1, 999);
        x.setPercent(0, 100);
        Check.due("the greatest rebate", x.amount(3, 1), -9999 * 999);
        for (int call : Check.outside(0, 3)) {
            Check.dueThrow("amount(" + call + ", 4)", Check.INDEX, () -> x.amount(call, 4));
            Check.dueThrow("callTotal(" + call + ")", Check.INDEX, () -> x.callTotal(call));
        }
        for (int line : Check.outside(0, 3)) {
            Check.dueThrow("amount(0, " + line + ")", Check.ARGUMENT, () -> x.amount(0, line));
        }
    }

    private static void rebates() {
        Dues x = Check.loaded(TEXT);
        for (int i = 0; i < 5; i++) {
            x.addCall(0, 360 + i, 360 + i, 0);
        }
        x.addCall(0, 5, 5, 0);
        x.addCall(1, 365, 365, 0);
        Check.due("rebates(0, 1)", x.rebates(0, 1), -35 - 35 - 175 - 175);
        Check.due("rebates(0, 0)", x.rebates(0, 0), 0);
        Check.due("rebates(1, 1)", x.rebates(1, 1), 0);
        x.cancel(0);
        Check.due("rebates behind cancel", x.rebates(0, 1), -35 - 35 - 175);
        Dues y = Check.loaded(TEXT + "call a 3599 to 3599 waste 0;call a 3240 to 3240 waste 0;");
        Check.due("rebates(0, 9), by the first call", y.rebates(0, 9), -35);
        for (int ship : Check.outside(0, 1)) {
            Check.dueThrow("rebates(" + ship + ", 10)", Check.INDEX, () -> x.rebates(ship, 10));
        }
        for (int year : Check.outside(0, 9)) {
            Check.dueThrow("rebates(0, " + year + ")", Check.ARGUMENT, () -> x.rebates(0, year));
        }
    }

    private static void quote() {
        Dues x = Check.loaded(TEXT + "call a 10 to 14 waste 12;call a 20 to 20 waste 0;");
        Check.due("quote behind both", x.quote(0, 21, 21, 0), 320);
        Check.due("quote on the day of the first", x.quote(0, 10, 14, 12), 350 - 35 + 9 + 21);
        Check.due("quote before both", x.quote(0, 9, 38, 999), 350 + 5 + 2 * 989 + 28 * 7);
        Check.due("quote in another year", x.quote(0, 360, 360, 0), 355);
        Check.due("quote of another ship", x.quote(1, 21, 21, 0), 203);
        Check.due("quote on the last day", x.quote(0, 3599, 3628, 0), 355 + 28 * 7);
        x.cancel(0);
        Check.due("quote behind cancel", x.quote(0, 15, 15, 0), 355);
        for (int i = 0; i < 38; i++) {
            x.addCall(0, 30, 30, 0);
        }
        Check.due("quote without room", x.quote(0, 30, 30, 0), 350 - 175 + 5);
        Check.due("nothing was added", x.count(1), 40);
        dueStay(x, "quote", (ship, first, last, waste) -> x.quote(ship, first, last, waste));
    }

    private interface Stay {
        int of(int ship, int first, int last, int waste);
    }

    private static void dueStay(Dues x, String name, Stay stay) {
        for (int ship : Check.outside(0, 1)) {
            Check.dueThrow(name + " of ship " + ship, Check.INDEX, () -> stay.of(ship, -1, 0, 1000));
        }
        for (int first : Check.outside(0, 3599)) {
            Check.dueThrow(name + " from " + first, Check.ARGUMENT, () -> stay.of(0, first, first, 0));
        }
        for (int last : Check.outside(100, 129)) {
            Check.dueThrow(name + " to " + last, Check.ARGUMENT, () -> stay.of(0, 100, last, 0));
        }
        for (int waste : Check.outside(0, 999)) {
            Check.dueThrow(name + " with waste " + waste, Check.ARGUMENT, () -> stay.of(0, 100, 100, waste));
        }
    }

    private static void callsToRebate() {
        Dues x = Check.loaded(TEXT + "call a 10 to 14 waste 12;call a 20 to 20 waste 0;call a 15 to 15 waste 0;");
        Check.due("from rank 3 to rank 4", x.callsToRebate(0, 0), 1);
        Check.due("without a call", x.callsToRebate(0, 5), 2);
        x.cancel(2);
        Check.due("from rank 2 to rank 4", x.callsToRebate(0, 0), 2);
        x.addCall(0, 30, 30, 0);
        x.addCall(0, 31, 31, 0);
        Check.due("the greatest rebate is there", x.callsToRebate(0, 0), PortDues.NONE);
        x.setPercent(1, 10);
        Check.due("no greater one in another year", x.callsToRebate(0, 1), 2);
        Check.due("an equal one is not greater", x.callsToRebate(0, 0), PortDues.NONE);
        x.undo();
        x.setPercent(0, 60);
        Check.due("the last one is less", x.callsToRebate(0, 0), PortDues.NONE);
        x.cancel(4);
        Check.due("from 60 to no more", x.callsToRebate(0, 0), PortDues.NONE);
        x.setPercent(0, 0);
        Check.due("a rebate of 0 is none", x.callsToRebate(0, 7), 4);
        x.setPercent(1, 0);
        Check.due("all are 0", x.callsToRebate(0, 7), PortDues.NONE);
        Check.due("in the last year", Check.loaded(TEXT).callsToRebate(0, 9), 2);
        Dues far = Check.loaded("rebate 99 percent 1;ship a tons 1;");
        Check.due("the 99th call", far.callsToRebate(0, 0), 99);
        Check.due("without rebates", Check.loaded("ship a tons 1;").callsToRebate(0, 0), PortDues.NONE);
        for (int ship : Check.outside(0, 1)) {
            Check.dueThrow("callsToRebate(" + ship + ", 10)", Check.INDEX, () -> x.callsToRebate(ship, 10));
        }
        for (int year : Check.outside(0, 9)) {
            Check.dueThrow("callsToRebate(0, " + year + ")", Check.ARGUMENT, () -> x.callsToRebate(0, year));
        }
    }

    private static void worth() {
        Dues x = Check.loaded(TEXT + "call a 10 to 14 waste 12;call a 20 to 20 waste 0;call b 3 to 3 waste 0;"
                + "call a 400 to 400 waste 0;");
        Check.due("worth of the first of two", x.worth(0), 350 + 9 + 21 - 35);
        Check.due("worth of the second one", x.worth(1), 320);
        Check.due("worth for another ship", x.worth(2), 203);
        Check.due("worth in another year", x.worth(3), 355);
        x.setPercent(0, 100);
        Check.due("worth with a full rebate", x.worth(0), 30);
        x.dispute(0, 2);
        Check.due("worth with a disputed day", x.worth(0), 23);
        x.cancel(1);
        Check.due("worth of a cancelled call", x.worth(1), 0);
        Check.due("worth of what is left", x.worth(0), 350 + 9 + 14);
        x.bill(0);
        Check.due("worth of a billed call", x.worth(0), 350 + 9 + 14);
        Dues y = Check.loaded("band 0 rate 1;rebate 3 percent 50;rebate 4 percent 100;ship a tons 10;");
        for (int i = 0; i < 4; i++) {
            y.addCall(0, i, i, 0);
        }
        Check.due("the sum is the same without it", y.worth(0), 0);
        y.setPercent(0, 0);
        Check.due("one full rebate would go", y.worth(1), 0);
        for (int call : Check.outside(0, 3)) {
            Check.dueThrow("worth(" + call + ")", Check.INDEX, () -> x.worth(call));
        }
    }

    private static void busiestYear() {
        Dues x = Check.loaded(TEXT);
        Check.due("without calls", x.busiestYear(0), 0);
        x.addCall(0, 3599, 3599, 0);
        Check.due("one call", x.busiestYear(0), 9);
        x.addCall(0, 1000, 1000, 0);
        Check.due("two years with one", x.busiestYear(0), 2);
        x.addCall(0, 3240, 3240, 0);
        Check.due("two in year 9", x.busiestYear(0), 9);
        x.cancel(0);
        Check.due("cancelled ones do not count", x.busiestYear(0), 2);
        Check.due("another ship", x.busiestYear(1), 0);
        x.addCall(1, 719, 719, 0);
        Check.due("year 1", x.busiestYear(1), 1);
        for (int ship : Check.outside(0, 1)) {
            Check.dueThrow("busiestYear(" + ship + ")", Check.INDEX, () -> x.busiestYear(ship));
        }
    }

    private static void addCall() {
        Dues x = Check.loaded(TEXT + "call a 10 to 14 waste 12;");
        Check.due("addCall", x.addCall(1, 3599, 3628, 999), 1);
        int[] due = {1, 3599, 3628, 999, 0, 1, 0, 0};
        for (int what = 0; what < due.length; what++) {
            Check.due("call(1, " + what + ")", x.call(1, what), due[what]);
        }
        dueStay(x, "addCall", (ship, first, last, waste) -> x.addCall(ship, first, last, waste));
        x.dispute(0, 3);
        x.addCall(0, 1, 1, 1);
        x.undo();
        Check.due("a call that was added in the place of another", x.addCall(0, 2, 2, 2), 2);
        Check.due("its first day", x.call(2, 1), 2);
        for (int i = 3; i < 40; i++) {
            Check.due("addCall number " + i, x.addCall(0, i, i, i), i);
        }
        Check.dueRefused(x, "addCall without room", Check.STATE, () -> x.addCall(0, 1, 1, 1));
        Check.dueRefused(x, "a wrong ship goes first", Check.INDEX, () -> x.addCall(2, -1, 1, 1));
        Check.dueRefused(x, "a wrong waste goes first", Check.ARGUMENT, () -> x.addCall(0, 1, 1, 1000));
    }

    private static void cancel() {
        Dues x = Check.loaded(TEXT + "call a 10 to 14 waste 12;call a 400 to 400 waste 0;call b 3 to 3 waste 0;"
                + "call a 401 to 404 waste 0;");
        Check.due("cancel(1)", x.cancel(1), 2);
        Check.due("it is cancelled", x.call(1, 4), 1);
        Check.dueRefused(x, "cancel once more", Check.STATE, () -> x.cancel(1));
        Check.due("cancel(2)", x.cancel(2), 0);
        x.bill(0);
        Check.dueRefused(x, "cancel with all billed", Check.STATE, () -> x.cancel(0));
        x.credit(0, 7);
        Check.dueRefused(x, "cancel with billed days", Check.STATE, () -> x.cancel(0));
        x.credit(0, 8);
        Check.due("cancel behind credits", x.cancel(0), 1);
        Check.due("such an invoice is not stale", x.isStale(0), false);
        x.bill(3);
        x.credit(1, 13);
        Check.dueRefused(x, "cancel with a billed rebate", Check.STATE, () -> x.cancel(3));
        for (int call : Check.outside(0, 3)) {
            Check.dueRefused(x, "cancel(" + call + ")", Check.INDEX, () -> x.cancel(call));
        }
    }

    private static void setWaste() {
        Dues x = Check.loaded(TEXT + "call a 10 to 14 waste 12;");
        Check.due("setWaste(0, 999)", x.setWaste(0, 999), 12);
        Check.due("its waste", x.call(0, 3), 999);
        Check.due("its fee", x.amount(0, 2), 5 + 2 * 989);
        Check.due("setWaste(0, 0)", x.setWaste(0, 0), 999);
        x.cancel(0);
        Check.due("setWaste of a cancelled call", x.setWaste(0, 1), 0);
        for (int call : Check.outside(0, 0)) {
            Check.dueRefused(x, "setWaste(" + call + ", 1000)", Check.INDEX, () -> x.setWaste(call, 1000));
        }
        for (int waste : Check.outside(0, 999)) {
            Check.dueRefused(x, "setWaste(0, " + waste + ")", Check.ARGUMENT, () -> x.setWaste(0, waste));
        }
    }

    private static void setTons() {
        Dues x = Check.loaded(TEXT + "call a 10 to 14 waste 12;");
        Check.due("setTons(0, 9999)", x.setTons(0, 9999), 150);
        Check.due("its tonnage", x.tons(0), 9999);
        Check.due("its dues", x.amount(0, 0), 200 + 3 * 9899);
        Check.due("setTons(0, 1)", x.setTons(0, 1), 9999);
        Check.due("another ship", x.tons(1), 99);
        for (int ship : Check.outside(0, 1)) {
            Check.dueRefused(x, "setTons(" + ship + ", 0)", Check.INDEX, () -> x.setTons(ship, 0));
        }
        for (int tons : Check.outside(1, 9999)) {
            Check.dueRefused(x, "setTons(0, " + tons + ")", Check.ARGUMENT, () -> x.setTons(0, tons));
        }
    }

    private static void bestDay() {
        Dues x = Check.loaded(TEXT + "call a 10 to 14 waste 12;call a 20 to 20 waste 0;call a 730 to 730 waste 0;");
        Check.due("all are the same", x.bestDay(0, 5, 104, 1, 0), 5);
        Check.due("the year with calls", x.bestDay(0, 355, 365, 1, 0), 355);
        Check.due("the year behind it has calls", x.bestDay(0, 715, 725, 30, 999), 720);
        Check.due("another ship", x.bestDay(1, 715, 725, 30, 999), 715);
        x.setPercent(0, 0);
        Check.due("no rebates", x.bestDay(0, 715, 725, 30, 999), 715);
        x.addCall(0, 731, 731, 0);
        x.addCall(0, 731, 731, 0);
        Check.due("the fourth call", x.bestDay(0, 1070, 1090, 1, 0), 1070);
        Check.due("the fourth call, from before", x.bestDay(0, 700, 799, 1, 0), 720);
        x.cancel(2);
        Check.due("behind cancel", x.bestDay(0, 700, 799, 1, 0), 700);
        Check.due("the last day", x.bestDay(0, 3599, 3599, 30, 0), 3599);
        Check.due("one day", x.bestDay(0, 7, 7, 1, 0), 7);
        Check.due("from day 0", x.bestDay(0, 0, 99, 1, 0), 0);
        Dues y = Check.loaded(TEXT + "call a 730 to 730 waste 0;");
        Check.due("the day to which it asks", y.bestDay(0, 700, 720, 1, 0), 720);
        Check.due("the day before is not enough", y.bestDay(0, 700, 719, 1, 0), 700);
        Check.due("the second day", y.bestDay(0, 719, 730, 1, 0), 720);
        for (int ship : Check.outside(0, 1)) {
            Check.dueThrow("bestDay of ship " + ship, Check.INDEX, () -> x.bestDay(ship, -1, 0, 0, -1));
        }
        for (int from : Check.outside(0, 3599)) {
            Check.dueThrow("bestDay from " + from, Check.ARGUMENT, () -> x.bestDay(0, from, from, 1, 0));
        }
        for (int to : Check.outside(100, 199)) {
            Check.dueThrow("bestDay to " + to, Check.ARGUMENT, () -> x.bestDay(0, 100, to, 1, 0));
        }
        Check.due("to 3599", x.bestDay(0, 3500, 3599, 1, 0), 3500);
        Check.dueThrow("bestDay to 3600", Check.ARGUMENT, () -> x.bestDay(0, 3590, 3600, 1, 0));
        for (int days : Check.outside(1, 30)) {
            Check.dueThrow("bestDay of " + days + " days", Check.ARGUMENT, () -> x.bestDay(0, 1, 1, days, 0));
        }
        for (int waste : Check.outside(0, 999)) {
            Check.dueThrow("bestDay with waste " + waste, Check.ARGUMENT, () -> x.bestDay(0, 1, 1, 1, waste));
        }
    }
}
