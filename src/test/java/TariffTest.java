/** Promises 8 to 15, 56 to 58 and 63: the tariff, its versions and its sheet. */
final class TariffTest {
    private static final String TEXT = "band 0 rate 2;band 100 rate 3;band 101 rate 999;rebate 2 percent 10;"
            + "rebate 4 percent 50;waste fixed 5 free 10 price 2;lay free 2 rate 7;ship a tons 150;call a 0 to 9 waste 1;";

    private TariffTest() {
    }

    public static void main(String[] args) {
        counts();
        numbersOfTheTariff();
        bandsAndRebates();
        slices();
        slab();
        tonsIn();
        wasteFee();
        setRate();
        setPercent();
        setLay();
        lastVersion();
        sheet();
        Check.finish();
    }

    private static void counts() {
        Dues x = Check.loaded(TEXT);
        x.addCall(0, 5, 5, 0);
        x.cancel(1);
        x.bill(0);
        x.credit(0, 1);
        x.credit(0, 2);
        x.advance(12);
        x.setLay(3, 3);
        x.dispute(0, 3);
        x.dispute(0, 5);
        x.addCall(0, 7, 20, 0);
        x.dispute(2, 13);
        x.cancel(2);
        int[] due = {1, 3, 1, 2, 1, 12, 3, 2, 3};
        for (int what = 0; what < due.length; what++) {
            Check.due("count(" + what + ")", x.count(what), due[what]);
        }
        for (int what : Check.outside(0, 8)) {
            Check.dueThrow("count(" + what + ")", Check.ARGUMENT, () -> x.count(what));
        }
    }

    private static void numbersOfTheTariff() {
        Dues x = Check.loaded("slab;waste fixed 1 free 2 price 3;lay free 4 rate 5;");
        for (int what = 0; what <= 5; what++) {
            Check.due("tariff(" + what + ")", x.tariff(what), what == 0 ? 1 : what);
        }
        for (int what : Check.outside(0, 5)) {
            Check.dueThrow("tariff(" + what + ")", Check.ARGUMENT, () -> x.tariff(what));
        }
        Check.due("the mode by its statement", Check.loaded("slices;").tariff(0), 0);
        Check.due("the mode without a statement", Check.loaded("ship a tons 1;").tariff(0), 0);
    }

    private static void bandsAndRebates() {
        Dues x = Check.loaded(TEXT);
        int[][] bands = {{0, 2}, {100, 3}, {101, 999}};
        for (int i = 0; i < 6; i++) {
            Check.due("band(" + i / 2 + ", " + i % 2 + ")", x.band(i / 2, i % 2), bands[i / 2][i % 2]);
        }
        int[][] rebates = {{2, 10}, {4, 50}};
        for (int i = 0; i < 4; i++) {
            Check.due("rebate(" + i / 2 + ", " + i % 2 + ")", x.rebate(i / 2, i % 2), rebates[i / 2][i % 2]);
        }
        for (int band : Check.outside(0, 2)) {
            Check.dueThrow("band(" + band + ", 9)", Check.INDEX, () -> x.band(band, 9));
        }
        for (int rebate : Check.outside(0, 1)) {
            Check.dueThrow("rebate(" + rebate + ", 9)", Check.INDEX, () -> x.rebate(rebate, 9));
        }
        for (int what : Check.outside(0, 1)) {
            Check.dueThrow("band(2, " + what + ")", Check.ARGUMENT, () -> x.band(2, what));
            Check.dueThrow("rebate(1, " + what + ")", Check.ARGUMENT, () -> x.rebate(1, what));
        }
    }

    private static void slices() {
        Dues x = Check.loaded(TEXT);
        int[][] due = {{0, 0, 0}, {1, 0, 2}, {99, 0, 198}, {100, 1, 200}, {101, 2, 203}, {102, 2, 1202},
            {9999, 2, 203 + 999 * 9898}};
        for (int[] d : due) {
            Check.due("bandOf(" + d[0] + ")", x.bandOf(d[0]), d[1]);
            Check.due("dues(" + d[0] + ")", x.dues(d[0]), d[2]);
        }
        for (int tons : Check.outside(0, 9999)) {
            Check.dueThrow("bandOf(" + tons + ")", Check.ARGUMENT, () -> x.bandOf(tons));
            Check.dueThrow("dues(" + tons + ")", Check.ARGUMENT, () -> x.dues(tons));
        }
        Dues none = Check.loaded("ship a tons 5;");
        Check.due("bandOf without bands", none.bandOf(9999), PortDues.NONE);
        Check.due("dues without bands", none.dues(9999), 0);
        Check.dueThrow("tonsIn without bands", Check.INDEX, () -> none.tonsIn(1, 0));
    }

    private static void slab() {
        Dues x = Check.loaded("slab;" + TEXT);
        int[][] due = {{0, 0}, {1, 2}, {99, 198}, {100, 300}, {101, 101 * 999}, {9999, 9999 * 999}};
        for (int[] d : due) {
            Check.due("slab: dues(" + d[0] + ")", x.dues(d[0]), d[1]);
        }
        Check.due("slab: dues without bands", Check.loaded("slab;").dues(9999), 0);
        Check.due("slab: amount", x.amount(0, 0), 150 * 999);
    }

    private static void tonsIn() {
        for (String mode : new String[] {"slices;", "slab;"}) {
            Dues x = Check.loaded(mode + TEXT);
            int[][] due = {{0, 0, 0, 0}, {99, 99, 0, 0}, {100, 100, 0, 0}, {101, 100, 1, 0}, {102, 100, 1, 1},
                {9999, 100, 1, 9898}};
            for (int[] d : due) {
                for (int band = 0; band < 3; band++) {
                    Check.due(mode + "tonsIn(" + d[0] + ", " + band + ")", x.tonsIn(d[0], band), d[band + 1]);
                }
            }
            for (int band : Check.outside(0, 2)) {
                Check.dueThrow("tonsIn(10000, " + band + ")", Check.INDEX, () -> x.tonsIn(10000, band));
            }
            for (int tons : Check.outside(0, 9999)) {
                Check.dueThrow("tonsIn(" + tons + ", 2)", Check.ARGUMENT, () -> x.tonsIn(tons, 2));
            }
        }
    }

    private static void wasteFee() {
        Dues x = Check.loaded(TEXT);
        int[][] due = {{0, 5}, {10, 5}, {11, 7}, {999, 5 + 2 * 989}};
        for (int[] d : due) {
            Check.due("wasteFee(" + d[0] + ")", x.wasteFee(d[0]), d[1]);
        }
        for (int waste : Check.outside(0, 999)) {
            Check.dueThrow("wasteFee(" + waste + ")", Check.ARGUMENT, () -> x.wasteFee(waste));
        }
        Check.due("wasteFee without a statement", Check.loaded("slab;").wasteFee(999), 0);
    }

    private static void setRate() {
        Dues x = Check.loaded(TEXT);
        Check.due("setRate(1, 10)", x.setRate(1, 10), 1);
        Check.due("its rate", x.band(1, 1), 10);
        Check.due("its tonnage", x.band(1, 0), 100);
        Check.due("dues(101)", x.dues(101), 210);
        Check.due("amount", x.amount(0, 0), 210 + 49 * 999);
        Check.due("setRate(0, 2), the same rate", x.setRate(0, 2), 2);
        Check.due("setRate(2, 0)", x.setRate(2, 0), 3);
        Check.due("setRate(2, 999)", x.setRate(2, 999), 4);
        Check.due("count(4)", x.count(4), 4);
        for (int band : Check.outside(0, 2)) {
            Check.dueRefused(x, "setRate(" + band + ", 1000)", Check.INDEX, () -> x.setRate(band, 1000));
        }
        for (int rate : Check.outside(0, 999)) {
            Check.dueRefused(x, "setRate(0, " + rate + ")", Check.ARGUMENT, () -> x.setRate(0, rate));
        }
    }

    private static void setPercent() {
        Dues x = Check.loaded(TEXT);
        x.addCall(0, 20, 20, 0);
        Check.due("setPercent(0, 33)", x.setPercent(0, 33), 1);
        Check.due("its percentage", x.rebate(0, 1), 33);
        Check.due("its call", x.rebate(0, 0), 2);
        Check.due("percentage of a call", x.call(1, 6), 33);
        Check.due("setPercent(0, 33), the same", x.setPercent(0, 33), 2);
        Check.due("setPercent(1, 100)", x.setPercent(1, 100), 3);
        Check.due("setPercent(1, 0)", x.setPercent(1, 0), 4);
        for (int rebate : Check.outside(0, 1)) {
            Check.dueRefused(x, "setPercent(" + rebate + ", 101)", Check.INDEX, () -> x.setPercent(rebate, 101));
        }
        for (int percent : Check.outside(0, 100)) {
            Check.dueRefused(x, "setPercent(0, " + percent + ")", Check.ARGUMENT, () -> x.setPercent(0, percent));
        }
    }

    private static void setLay() {
        Dues x = Check.loaded(TEXT);
        x.dispute(0, 2);
        x.dispute(0, 3);
        x.settle(0, 3, true);
        Check.due("setLay(4, 9)", x.setLay(4, 9), 1);
        Check.due("free", x.tariff(4), 4);
        Check.due("rate", x.tariff(5), 9);
        Check.due("lay days", x.layDays(0), 0x3f0);
        Check.due("pending stays", x.pending(0), 4);
        Check.due("upheld stays", x.upheld(0), 8);
        Check.due("count(8) stays", x.count(8), 1);
        Check.due("amount", x.amount(0, 3), 54);
        Check.due("settle of a day that is no lay day any more", x.settle(0, 2, true), 0);
        Check.due("setLay(30, 0)", x.setLay(30, 0), 2);
        Check.due("no lay days", x.layDays(0), 0);
        Check.due("setLay(0, 9999)", x.setLay(0, 9999), 3);
        Check.due("all are lay days", x.layDays(0), 0x3ff);
        Check.due("amount without upheld days", x.amount(0, 3), 8 * 9999);
        for (int free : Check.outside(0, 30)) {
            Check.dueRefused(x, "setLay(" + free + ", 0)", Check.ARGUMENT, () -> x.setLay(free, 0));
        }
        for (int rate : Check.outside(0, 9999)) {
            Check.dueRefused(x, "setLay(0, " + rate + ")", Check.ARGUMENT, () -> x.setLay(0, rate));
        }
        Check.due("setLay without a text", new Dues().setLay(1, 1), 1);
    }

    private static void lastVersion() {
        Dues x = Check.loaded(TEXT);
        for (int i = 1; i <= 20; i++) {
            Check.due("version", i % 3 == 0 ? x.setRate(0, i) : i % 3 == 1 ? x.setPercent(0, i) : x.setLay(i, i), i);
        }
        Check.dueRefused(x, "setRate at version 20", Check.STATE, () -> x.setRate(0, 1));
        Check.dueRefused(x, "setPercent at version 20", Check.STATE, () -> x.setPercent(0, 1));
        Check.dueRefused(x, "setLay at version 20", Check.STATE, () -> x.setLay(1, 1));
        Check.dueThrow("a wrong band goes first", Check.INDEX, () -> x.setRate(3, 1000));
        Check.dueThrow("a wrong rate goes first", Check.ARGUMENT, () -> x.setRate(0, 1000));
        Check.dueThrow("a wrong rebate goes first", Check.INDEX, () -> x.setPercent(2, 101));
        Check.dueThrow("a wrong percentage goes first", Check.ARGUMENT, () -> x.setPercent(0, 101));
        Check.dueThrow("a wrong number goes first", Check.ARGUMENT, () -> x.setLay(31, 0));
        Check.due("length of the last sheet", x.writeTariff(20) > 0, true);
        x.undo();
        Check.due("version behind undo", x.setRate(0, 1), 20);
    }

    private static void sheet() {
        Dues x = Check.loaded(TEXT);
        String rest = "waste fixed 5 free 10 price 2\n";
        String version0 = "version 0\nslices\nband 0 rate 2\nband 100 rate 3\nband 101 rate 999\nrebate 2 percent 10\n"
                + "rebate 4 percent 50\n" + rest + "lay free 2 rate 7\n";
        Check.due("sheet 0", Check.tariffSheet(x, 0), version0);
        x.setRate(1, 4);
        x.setPercent(1, 60);
        x.setLay(2, 8);
        x.setLay(3, 8);
        x.setRate(1, 4);
        Check.due("sheet 0 still", Check.tariffSheet(x, 0), version0);
        Check.due("sheet 1", Check.tariffSheet(x, 1), "version 1\nslices\nband 0 rate 2\nband 100 rate 4 changed\n"
                + "band 101 rate 999\nrebate 2 percent 10\nrebate 4 percent 50\n" + rest + "lay free 2 rate 7\n");
        Check.due("sheet 2", Check.tariffSheet(x, 2), "version 2\nslices\nband 0 rate 2\nband 100 rate 4\n"
                + "band 101 rate 999\nrebate 2 percent 10\nrebate 4 percent 60 changed\n" + rest + "lay free 2 rate 7\n");
        String version = "\nslices\nband 0 rate 2\nband 100 rate 4\nband 101 rate 999\nrebate 2 percent 10\n"
                + "rebate 4 percent 60\n" + rest;
        Check.due("sheet 3", Check.tariffSheet(x, 3), "version 3" + version + "lay free 2 rate 8 changed\n");
        Check.due("sheet 4", Check.tariffSheet(x, 4), "version 4" + version + "lay free 3 rate 8 changed\n");
        Check.due("sheet 5, nothing changed", Check.tariffSheet(x, 5), "version 5" + version + "lay free 3 rate 8\n");
        for (int number : Check.outside(0, 5)) {
            Check.dueThrow("writeTariff(" + number + ")", Check.INDEX, () -> x.writeTariff(number));
        }
        Check.due("the output stays", x.outputByte(8), '5');
        Check.due("the sheet of slab", Check.tariffSheet(Check.loaded("slab;"), 0),
                "version 0\nslab\nwaste fixed 0 free 0 price 0\nlay free 30 rate 0\n");
    }
}
