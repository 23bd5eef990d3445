/**
 * Section 2 (THE TARIFF) and promises 8 to 15, 56 to 58 and 63: a test for each sentence that names a
 * boundary case. The sentence stands above its test.
 */
final class EdgeTariffTest {
    private static final int[][] BANDS = {{0, 3}, {1, 0}, {100, 7}, {101, 999}, {9998, 1}, {9999, 5}};
    private static final String SIX = "band 0 rate 3;band 1 rate 0;band 100 rate 7;band 101 rate 999;"
            + "band 9998 rate 1;band 9999 rate 5;";
    private static final String REBATES = "rebate 2 percent 10;rebate 3 percent 0;rebate 5 percent 100;rebate 41 percent 7;";

    private EdgeTariffTest() {
    }

    public static void main(String[] args) {
        bandWithoutTheNext();
        duesOfBothModes();
        noDuesWithoutBands();
        greatestDues();
        tonsWithinBands();
        wasteAboveFree();
        countsOfNothingAndOfAll();
        numbersOfBandsAndRebates();
        layDaysFromFreeOn();
        versions();
        versionTwenty();
        leastAndGreatestChanges();
        changesWithoutBands();
        disputedDaysStay();
        changedLines();
        versionsOfSheets();
        Check.finish();
    }

    private static int bandOf(int ton) {
        int band = 0;
        while (band + 1 < BANDS.length && ton >= BANDS[band + 1][0]) {
            band++;
        }
        return band;
    }

    // "Band k has the tonnage from its number up to that of the next band, without it; the last one has all above."
    // "the tonnage t itself lies in the band with t"; bandOf: "0 to 9999"
    private static void bandWithoutTheNext() {
        Dues x = Check.loaded(SIX);
        int[][] due = {{0, 0}, {1, 1}, {2, 1}, {99, 1}, {100, 2}, {101, 3}, {102, 3}, {9997, 3}, {9998, 4}, {9999, 5}};
        for (int[] d : due) {
            Check.due("bandOf(" + d[0] + ")", x.bandOf(d[0]), d[1]);
        }
        Dues one = Check.loaded("band 0 rate 3;");
        Check.due("bandOf(0) with one band", one.bandOf(0), 0);
        Check.due("bandOf(9999) with one band", one.bandOf(9999), 0);
    }

    // "with slices, the sum over all bands of their rate times the tons that lie in them; with slab the rate of the
    // band in which the tonnage lies times the tonnage"; "Ton number i, from 0, lies in the band with i"
    private static void duesOfBothModes() {
        Dues slices = Check.loaded(SIX);
        Dues slab = Check.loaded("slab;" + SIX);
        int sum = 0;
        for (int tons = 0; tons <= 9999; tons++) {
            Check.due("slices: dues(" + tons + ")", slices.dues(tons), sum);
            Check.due("slab: dues(" + tons + ")", slab.dues(tons), BANDS[bandOf(tons)][1] * tons);
            sum += BANDS[bandOf(tons)][1];
        }
    }

    // "There are no dues without bands."; bandOf: "NONE without bands"
    private static void noDuesWithoutBands() {
        for (String mode : new String[] {"slices;", "slab;"}) {
            Dues x = Check.loaded(mode + "rebate 2 percent 100;ship a tons 9999;call a 0 to 0 waste 0;"
                    + "call a 0 to 0 waste 0;");
            for (int tons : new int[] {0, 1, 9999}) {
                Check.due(mode + "bandOf(" + tons + ")", x.bandOf(tons), PortDues.NONE);
                Check.due(mode + "dues(" + tons + ")", x.dues(tons), 0);
            }
            for (int call = 0; call < 2; call++) {
                Check.due(mode + "amount(" + call + ", 0)", x.amount(call, 0), 0);
                Check.due(mode + "amount(" + call + ", 1)", x.amount(call, 1), 0);
            }
            Check.dueThrow(mode + "band(0, 0)", Check.INDEX, () -> x.band(0, 0));
            Check.dueThrow(mode + "tonsIn(0, 0)", Check.INDEX, () -> x.tonsIn(0, 0));
        }
    }

    // The greatest numbers of all: "its rate, 0 to 999", "its tonnage, 1 to 9999", "its percentage, 0 to 100"
    private static void greatestDues() {
        for (String mode : new String[] {"slices;", "slab;"}) {
            Dues x = Check.loaded(mode + "band 0 rate 999;rebate 2 percent 100;waste fixed 9999 free 0 price 999;"
                    + "lay free 0 rate 9999;ship a tons 9999;call a 0 to 29 waste 999;call a 0 to 29 waste 999;");
            Check.due(mode + "dues", x.dues(9999), 9989001);
            Check.due(mode + "amount of the rebate", x.amount(1, 1), -9989001);
            Check.due(mode + "amount of the waste", x.amount(1, 2), 1008000);
            Check.due(mode + "amount of the lay days", x.amount(1, 3), 299970);
            Check.due(mode + "callTotal", x.callTotal(0), 9989001 + 1008000 + 299970);
            Check.due(mode + "callTotal with the rebate", x.callTotal(1), 1008000 + 299970);
            x.setPercent(0, 99);
            Check.due(mode + "a rebate of 99", x.amount(1, 1), -9889110);
            x.bill(0);
            Check.due(mode + "net", x.net(0), 11296971);
            Check.due(mode + "open", x.open(0), 11296971);
            Check.due(mode + "balance", x.balance(0), 11296971);
        }
    }

    // tonsIn: "how many of the tons lie in this band, as with slices"
    private static void tonsWithinBands() {
        for (String mode : new String[] {"slices;", "slab;"}) {
            Dues x = Check.loaded(mode + SIX);
            int[] within = new int[BANDS.length];
            for (int tons = 0; tons <= 9999; tons++) {
                if (tons < 103 || tons > 9996) {
                    for (int band = 0; band < BANDS.length; band++) {
                        Check.due(mode + "tonsIn(" + tons + ", " + band + ")", x.tonsIn(tons, band), within[band]);
                    }
                }
                within[bandOf(tons)]++;
            }
            Check.due(mode + "the last band has all above", x.tonsIn(9999, 5), 0);
            Check.dueThrow(mode + "the band behind the last one", Check.INDEX, () -> x.tonsIn(9999, 6));
            Check.dueThrow(mode + "a wrong band goes first", Check.INDEX, () -> x.tonsIn(10000, 6));
            Check.dueThrow(mode + "a wrong band goes first", Check.INDEX, () -> x.tonsIn(-1, -1));
        }
        Check.due("one band has all", Check.loaded("band 0 rate 0;").tonsIn(9999, 0), 9999);
        Dues y = Check.loaded("band 0 rate 1;band 5 rate 1;band 7 rate 1;");
        int[][] due = {{0, 0, 0, 0}, {4, 4, 0, 0}, {5, 5, 0, 0}, {6, 5, 1, 0}, {7, 5, 2, 0}, {8, 5, 2, 1}, {9999, 5, 2, 9992}};
        for (int[] d : due) {
            for (int band = 0; band < 3; band++) {
                Check.due("tonsIn(" + d[0] + ", " + band + ")", y.tonsIn(d[0], band), d[1 + band]);
            }
        }
    }

    // "The waste fee is fixed plus price times the waste above free (0 if it is not above)."
    private static void wasteAboveFree() {
        int[][] due = {{0, 0, 7}, {0, 1, 10}, {0, 999, 7 + 3 * 999}, {500, 499, 7}, {500, 500, 7}, {500, 501, 10},
            {998, 998, 7}, {998, 999, 10}, {999, 0, 7}, {999, 999, 7}};
        for (int[] d : due) {
            Dues x = Check.loaded("waste fixed 7 free " + d[0] + " price 3;ship a tons 1;call a 0 to 0 waste " + d[1] + ";");
            Check.due("wasteFee(" + d[1] + ") with free " + d[0], x.wasteFee(d[1]), d[2]);
            Check.due("amount with waste " + d[1] + " and free " + d[0], x.amount(0, 2), d[2]);
            Check.due("quote with waste " + d[1] + " and free " + d[0], x.quote(0, 0, 0, d[1]), d[2]);
        }
        Dues most = Check.loaded("waste fixed 9999 free 0 price 999;");
        Check.due("the greatest fee", most.wasteFee(999), 9999 + 999 * 999);
        Check.due("a fee without a statement", new Dues().wasteFee(999), 0);
    }

    // count: "what: 0 ships; ... 8 pending days of all calls"
    private static void countsOfNothingAndOfAll() {
        Dues empty = new Dues();
        for (int what = 0; what <= 8; what++) {
            Check.due("count(" + what + ") of an empty ledger", empty.count(what), 0);
        }
        Dues x = Check.loaded(SIX + REBATES + "lay free 0 rate 1;ship a tons 1;call a 0 to 29 waste 0;"
                + "call a 0 to 29 waste 0;");
        for (int day = 0; day < 30; day++) {
            x.dispute(0, day);
            x.dispute(1, day);
            Check.due("count(8)", x.count(8), 2 * day + 2);
        }
        x.settle(1, 0, true);
        x.settle(0, 29, false);
        Check.due("count(8) without settled days", x.count(8), 58);
        x.cancel(1);
        Check.due("count(1), cancelled ones included", x.count(1), 2);
        Check.due("count(6)", x.count(6), 6);
        Check.due("count(7)", x.count(7), 4);
        for (int what : new int[] {-1, 9, Integer.MIN_VALUE, Integer.MAX_VALUE}) {
            Check.dueRefused(x, "count(" + what + ")", Check.ARGUMENT, () -> x.count(what));
        }
        for (int what : new int[] {-1, 6, Integer.MIN_VALUE, Integer.MAX_VALUE}) {
            Check.dueRefused(x, "tariff(" + what + ")", Check.ARGUMENT, () -> x.tariff(what));
        }
    }

    // band, rebate: "number of a band", "what: 0 ...; 1 ..."
    private static void numbersOfBandsAndRebates() {
        Dues x = Check.loaded(SIX + REBATES);
        for (int band = 0; band < 6; band++) {
            Check.due("band(" + band + ", 0)", x.band(band, 0), BANDS[band][0]);
            Check.due("band(" + band + ", 1)", x.band(band, 1), BANDS[band][1]);
        }
        int[][] rebates = {{2, 10}, {3, 0}, {5, 100}, {41, 7}};
        for (int rebate = 0; rebate < 4; rebate++) {
            Check.due("rebate(" + rebate + ", 0)", x.rebate(rebate, 0), rebates[rebate][0]);
            Check.due("rebate(" + rebate + ", 1)", x.rebate(rebate, 1), rebates[rebate][1]);
        }
        // The rows of a longer text are none of a shorter one.
        Check.load(x, "band 0 rate 1;rebate 2 percent 1;");
        Check.dueThrow("band(1, 0) of one band", Check.INDEX, () -> x.band(1, 0));
        Check.dueThrow("rebate(1, 0) of one rebate", Check.INDEX, () -> x.rebate(1, 0));
        Check.due("dues(9999) of one band", x.dues(9999), 9999);
    }

    // "The days of a call are numbered from 0 for its first day. Its lay days are those from the number free on."
    private static void layDaysFromFreeOn() {
        int[][] due = {{0, 1, 1}, {1, 1, 0}, {30, 1, 0}, {0, 30, 0x3fffffff}, {1, 30, 0x3ffffffe}, {28, 30, 0x30000000},
            {29, 30, 0x20000000}, {30, 30, 0}, {0, 29, 0x1fffffff}, {28, 29, 0x10000000}, {29, 29, 0}, {5, 6, 32}, {6, 6, 0}};
        for (int[] d : due) {
            Dues x = Check.loaded("lay free " + d[0] + " rate 9999;ship a tons 1;"
                    + "call a 359 to " + (358 + d[1]) + " waste 0;");
            String what = " with free " + d[0] + " and " + d[1] + " days";
            Check.due("layDays" + what, x.layDays(0), d[2]);
            Check.due("billable" + what, x.billable(0), d[2]);
            Check.due("amount" + what, x.amount(0, 3), 9999 * Integer.bitCount(d[2]));
            Check.due("quote" + what, x.quote(0, 3599, 3598 + d[1], 0), 9999 * Integer.bitCount(d[2]));
        }
        Dues none = Check.loaded("ship a tons 1;call a 0 to 29 waste 0;");
        Check.due("lay days without a statement", none.layDays(0), 0);
    }

    // "Each change of the tariff makes a new version of it; the tariff of the text is version 0."
    private static void versions() {
        Dues x = Check.loaded(SIX + REBATES + "lay free 5 rate 5;");
        Check.due("the version of the text", x.count(4), 0);
        Check.due("setRate", x.setRate(5, 999), 1);
        Check.due("setPercent", x.setPercent(3, 100), 2);
        Check.due("setLay", x.setLay(5, 5), 3);
        Check.due("a change to the same", x.setRate(5, 999), 4);
        Check.due("dues by the present version", x.dues(9999), 3 + 7 + 999 * 9897 + 1);
        Check.due("load", Check.load(x, SIX), 0);
        Check.due("the version of another text", x.count(4), 0);
        Check.due("setRate behind it", x.setRate(0, 0), 1);
    }

    // setRate, setPercent, setLay: "IllegalStateException if the present version is 20"
    private static void versionTwenty() {
        Dues x = Check.loaded("band 0 rate 1;rebate 2 percent 1;");
        for (int version = 1; version <= 19; version++) {
            Check.due("setLay", x.setLay(version, version), version);
        }
        Check.due("setRate at version 19", x.setRate(0, 9), 20);
        x.undo();
        Check.due("setPercent at version 19", x.setPercent(0, 9), 20);
        x.undo();
        Check.due("setLay at version 19", x.setLay(30, 9999), 20);
        Check.dueRefused(x, "setRate at version 20", Check.STATE, () -> x.setRate(0, 9));
        Check.dueRefused(x, "setPercent at version 20", Check.STATE, () -> x.setPercent(0, 9));
        Check.dueRefused(x, "setLay at version 20", Check.STATE, () -> x.setLay(0, 0));
        Check.dueRefused(x, "setRate of no band", Check.INDEX, () -> x.setRate(1, 1000));
        Check.dueRefused(x, "setRate to 1000", Check.ARGUMENT, () -> x.setRate(0, 1000));
        Check.dueRefused(x, "setPercent of no rebate", Check.INDEX, () -> x.setPercent(1, 101));
        Check.dueRefused(x, "setPercent to 101", Check.ARGUMENT, () -> x.setPercent(0, 101));
        Check.dueRefused(x, "setLay to 31", Check.ARGUMENT, () -> x.setLay(31, 0));
        Check.dueRefused(x, "setLay to 10000", Check.ARGUMENT, () -> x.setLay(0, 10000));
        Check.load(x, "band 0 rate 1;");
        Check.due("behind another load", x.setRate(0, 2), 1);
        x.undo();
        x.undo();
        Check.due("version 20 is back", x.count(4), 20);
        Check.due("its lay days", x.tariff(4), 30);
    }

    // setRate: "rate: 0 to 999"; setPercent: "percent: 0 to 100"; setLay: "free: 0 to 30", "rate: 0 to 9999"
    private static void leastAndGreatestChanges() {
        Dues x = Check.loaded(SIX + REBATES);
        int version = 0;
        for (int value : new int[] {0, 999}) {
            for (int band : new int[] {0, 5}) {
                version++;
                Check.due("setRate(" + band + ", " + value + ")", x.setRate(band, value), version);
                Check.due("band(" + band + ", 1)", x.band(band, 1), value);
                Check.due("band(" + band + ", 0)", x.band(band, 0), BANDS[band][0]);
            }
        }
        for (int value : new int[] {0, 100}) {
            for (int rebate : new int[] {0, 3}) {
                version++;
                Check.due("setPercent(" + rebate + ", " + value + ")", x.setPercent(rebate, value), version);
                Check.due("rebate(" + rebate + ", 1)", x.rebate(rebate, 1), value);
            }
        }
        for (int free : new int[] {0, 30}) {
            for (int rate : new int[] {0, 9999}) {
                version++;
                Check.due("setLay(" + free + ", " + rate + ")", x.setLay(free, rate), version);
                Check.due("free", x.tariff(4), free);
                Check.due("rate", x.tariff(5), rate);
            }
        }
    }

    // "Before the first successful load() there is nothing": no band and no rebate, but lay days.
    private static void changesWithoutBands() {
        Dues x = new Dues();
        Check.dueRefused(x, "setRate", Check.INDEX, () -> x.setRate(0, 1));
        Check.dueRefused(x, "setPercent", Check.INDEX, () -> x.setPercent(0, 1));
        Check.due("setLay", x.setLay(0, 9999), 1);
        Check.dueRefused(x, "setRate at version 1", Check.INDEX, () -> x.setRate(0, 1000));
        Check.due("the sheet", Check.tariffSheet(x, 1),
                "version 1\nslices\nwaste fixed 0 free 0 price 0\nlay free 0 rate 9999 changed\n");
    }

    // setLay: "Days that are pending or upheld stay so, also if they are no lay days any more."
    private static void disputedDaysStay() {
        Dues x = Check.loaded("lay free 0 rate 2;ship a tons 1;call a 0 to 29 waste 0;");
        x.dispute(0, 0);
        x.dispute(0, 29);
        x.dispute(0, 28);
        x.settle(0, 28, true);
        x.setLay(30, 2);
        Check.due("lay days", x.layDays(0), 0);
        Check.due("pending", x.pending(0), 1 << 29 | 1);
        Check.due("upheld", x.upheld(0), 1 << 28);
        Check.due("count(8)", x.count(8), 2);
        Check.due("amount", x.amount(0, 3), 0);
        Check.dueRefused(x, "dispute of a pending day that is no lay day", Check.ARGUMENT, () -> x.dispute(0, 29));
        Check.due("settle", x.settle(0, 29, true), 1);
        Check.due("settle", x.settle(0, 0, false), 0);
        x.setLay(29, 2);
        Check.due("an upheld day is not billable", x.billable(0), 0);
        x.setLay(27, 2);
        Check.due("the days but upheld ones", x.billable(0), 1 << 27);
    }

    // writeTariff: "changed at its end if one of its numbers is not that of the version before (never in version 0)"
    private static void changedLines() {
        Dues x = Check.loaded("slab;" + SIX + REBATES);
        x.setRate(0, 4);
        x.setRate(0, 3);
        x.setPercent(3, 8);
        x.setLay(30, 1);
        x.setLay(29, 1);
        x.setLay(29, 1);
        x.setLay(0, 9999);
        x.setPercent(2, 99);
        x.setPercent(2, 99);
        x.setPercent(2, 100);
        x.setRate(3, 998);
        x.setRate(3, 998);
        x.setLay(1, 9999);
        x.setLay(1, 9998);
        String[] changed = {"", "band 0 rate 4", "band 0 rate 3", "rebate 41 percent 8", "lay free 30 rate 1",
            "lay free 29 rate 1", "", "lay free 0 rate 9999", "rebate 5 percent 99", "", "rebate 5 percent 100",
            "band 101 rate 998", "", "lay free 1 rate 9999", "lay free 1 rate 9998"};
        for (int version = 0; version < changed.length; version++) {
            Check.due("changed in version " + version, marked(x, version), changed[version]);
        }
        // "never in version 0", also if another text had other numbers in its versions.
        Check.load(x, SIX + REBATES + "lay free 3 rate 3;");
        Check.due("changed in another version 0", marked(x, 0), "");
    }

    private static String marked(Dues x, int version) {
        StringBuilder all = new StringBuilder();
        for (String line : Check.tariffSheet(x, version).split("\n")) {
            if (line.endsWith(" changed")) {
                all.append(line, 0, line.length() - " changed".length());
            }
        }
        return all.toString();
    }

    // writeTariff: "version: number of a version"
    private static void versionsOfSheets() {
        Dues x = new Dues();
        Check.due("the sheet of nothing", Check.tariffSheet(x, 0),
                "version 0\nslices\nwaste fixed 0 free 0 price 0\nlay free 30 rate 0\n");
        for (int version = 0; version <= 20; version++) {
            int behind = version + 1;
            Check.dueThrow("the version behind " + version, Check.INDEX, () -> x.writeTariff(behind));
            Check.dueThrow("the version -1", Check.INDEX, () -> x.writeTariff(-1));
            Check.due("the first line", Check.tariffSheet(x, version).split("\n")[0], "version " + version);
            if (version < 20) {
                x.setLay(version, version);
            }
        }
        Check.due("the output stays", Check.rest(x).split("\n")[0], "version 20");
        x.undo();
        Check.dueThrow("the version that was undone", Check.INDEX, () -> x.writeTariff(20));
        Dues all = Check.loaded("slab;waste fixed 9999 free 999 price 999;lay free 30 rate 9999;" + SIX + REBATES);
        Check.due("the longest sheet", Check.tariffSheet(all, 0), "version 0\nslab\nband 0 rate 3\nband 1 rate 0\n"
                + "band 100 rate 7\nband 101 rate 999\nband 9998 rate 1\nband 9999 rate 5\nrebate 2 percent 10\n"
                + "rebate 3 percent 0\nrebate 5 percent 100\nrebate 41 percent 7\nwaste fixed 9999 free 999 price 999\nlay free 30 rate 9999\n");
    }
}
