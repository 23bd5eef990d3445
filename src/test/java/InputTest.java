/** Promises 1 to 7 and 65: the new object, the buffers and the parser. */
final class InputTest {
    private InputTest() {
    }

    public static void main(String[] args) {
        newObject();
        append();
        truncate();
        loadReplacesAll();
        tokens();
        misplacedTokens();
        errorState();
        find();
        outputByte();
        Check.finish();
    }

    private static void newObject() {
        Dues x = new Dues();
        for (int what = 0; what <= 8; what++) {
            Check.due("new: count(" + what + ")", x.count(what), 0);
        }
        int[] tariff = {0, 0, 0, 0, 30, 0};
        for (int what = 0; what < tariff.length; what++) {
            Check.due("new: tariff(" + what + ")", x.tariff(what), tariff[what]);
        }
        Check.due("new: bandOf", x.bandOf(0), PortDues.NONE);
        Check.due("new: dues", x.dues(9999), 0);
        Check.due("new: errorCode", x.errorCode(), 0);
        Check.due("new: errorPosition", x.errorPosition(), PortDues.NONE);
        Check.due("new: undoCount", x.undoCount(), 0);
        Check.due("new: find", x.find(), PortDues.NONE);
        Check.due("new: staleCount", x.staleCount(), 0);
        Check.due("new: the first append", x.append(0, 0, 0, 0, 0), 20);
        Check.dueThrow("new: outputByte", Check.INDEX, () -> x.outputByte(0));
        Check.due("NONE", PortDues.NONE, -1);
        Check.due("PARSE_ERROR", PortDues.PARSE_ERROR, -4);
        Check.due("new: tariff sheet", Check.tariffSheet(x, 0),
                "version 0\nslices\nwaste fixed 0 free 0 price 0\nlay free 30 rate 0\n");
    }

    private static void append() {
        Dues x = new Dues();
        for (int i = 1; i <= 40; i++) {
            Check.due("append number " + i, x.append(0x20202020, 0x20202020, 0x20202020, 0x20202020, 0x20202020), i * 20);
        }
        Check.dueThrow("append to a full buffer", Check.STATE, () -> x.append(1, 2, 3, 4, 5));
        x.truncate(781);
        Check.dueThrow("append to 781 bytes", Check.STATE, () -> x.append(1, 2, 3, 4, 5));
        x.truncate(780);
        Check.due("append to 780 bytes", x.append(0x20202020, 0x20202020, 0x20202020, 0x20202020, 0x20202020), 800);
        Check.due("load of 800 spaces", x.load(), PortDues.PARSE_ERROR);
        Check.due("its position", x.errorPosition(), 800);
        // "ship abcdef tons 12;" in the order of the bytes of each parameter
        Check.due("append of a text", x.append(0x73686970, 0x20616263, 0x64656620, 0x746f6e73, 0x2031323b), 20);
        Check.due("load of it", x.load(), 1);
        Check.due("its tonnage", x.tons(0), 12);
        Check.due("its name", Check.find(x, "abcdef"), 0);
    }

    private static void truncate() {
        Dues x = new Dues();
        Check.dueThrow("truncate(1) of an empty buffer", Check.ARGUMENT, () -> x.truncate(1));
        x.truncate(0);
        x.append(1, 2, 3, 4, 5);
        for (int length : Check.outside(0, 20)) {
            Check.dueThrow("truncate(" + length + ")", Check.ARGUMENT, () -> x.truncate(length));
        }
        x.truncate(20);
        x.truncate(7);
        Check.dueThrow("truncate(8) of 7 bytes", Check.ARGUMENT, () -> x.truncate(8));
        Check.due("append behind truncate", x.append(1, 2, 3, 4, 5), 27);
        x.truncate(0);
        Check.due("append behind truncate(0)", x.append(1, 2, 3, 4, 5), 20);
    }

    private static void loadReplacesAll() {
        Dues x = Check.loaded("slab;band 0 rate 2;band 100 rate 3;rebate 2 percent 10;waste fixed 1 free 2 price 3;"
                + "lay free 4 rate 5;ship a tons 150;ship b tons 9;call a 3 to 9 waste 12;call b 3599 to 3628 waste 999;");
        Check.due("calls", x.count(1), 2);
        Check.due("last day", x.call(1, 2), 3628);
        x.bill(0);
        x.credit(0, 1);
        x.setLay(1, 1);
        x.advance(9);
        Check.due("load of another text", Check.load(x, "ship c tons 7;"), 1);
        int[] counts = {1, 0, 0, 0, 0, 0, 0, 0, 0};
        for (int what = 0; what < counts.length; what++) {
            Check.due("count(" + what + ") behind load", x.count(what), counts[what]);
        }
        int[] tariff = {0, 0, 0, 0, 30, 0};
        for (int what = 0; what < tariff.length; what++) {
            Check.due("tariff(" + what + ") behind load", x.tariff(what), tariff[what]);
        }
        Check.due("paid behind load", x.paid(0), 0);
        Check.due("the buffer is empty behind load", x.append(0, 0, 0, 0, 0), 20);
        Check.due("a text without a ship", Check.load(new Dues(), "slices;"), 0);
        Dues y = new Dues();
        String text = "slab;waste fixed 1 free 1 price 1;lay free 1 rate 1;ship a tons 1;";
        for (int i = 0; i < 3; i++) {
            Check.due("the same statements in each text", Check.load(y, text), 1);
            Check.due("a broken text between", Check.load(y, text + "x"), PortDues.PARSE_ERROR);
        }
    }

    private static void tokens() {
        Check.accepted("band0rate2;rebate2percent3;ship a tons1;call a0to0waste0;");
        Check.accepted("  band\n0 \n rate 2\n;\n ");
        Check.accepted("band 0000000000000000000000000000000000000000000 rate 00000000000000000000000000999;");
        Check.accepted("ship shipx tons 1;ship tonsy tons 1;ship abcdef tons 9999;");
        Check.accepted("lay free 30 rate 9999;waste fixed 9999 free 999 price 999;slab;");
        Check.refused("band 0 rate 99999999999999999999999999999999999999999999;", 2, 12);
        Check.refused("band 0 rate 4294967297;", 2, 12);
        Check.refused("band 0 rate 4294967296000;", 2, 12);
        Check.refused("bandx 0 rate 1;", 1, 0);
        Check.refused("band 0\trate 1;", 1, 6);
        Check.refused("Band 0 rate 1;", 1, 0);
        Check.refused("band -1 rate 1;", 1, 5);
        Check.refused("band 0 rate 1;\u00e4", 1, 14);
        Check.refused("band 0 rate 1;\u0000", 1, 14);
        Check.refused("ship \u00e1 tons 1;", 1, 5);
        Check.refused("ship a1 tons 1;", 1, 6);
        Check.refused("ship a tons 1 5;", 1, 14);
        Check.refused("ship a tons\r1;", 1, 11);
    }

    private static void misplacedTokens() {
        Check.refused("", 1, 0);
        Check.refused("   ", 1, 3);
        Check.refused(";", 1, 0);
        Check.refused("7", 1, 0);
        Check.refused("slices", 1, 6);
        Check.refused("slices;;", 1, 7);
        Check.refused("slices; x", 1, 8);
        Check.refused("slab slab;", 1, 5);
        Check.refused("rate 1;", 1, 0);
        Check.refused("ship slab tons 1;", 1, 5);
        Check.refused("ship abcdefg tons 1;", 1, 5);
        Check.refused("ship 1 tons 1;", 1, 5);
        Check.refused("ship ; tons 1;", 1, 5);
        Check.refused("ship a ton 1;", 1, 7);
        Check.refused("ship a tons a;", 1, 12);
        Check.refused("ship a tons 1", 1, 13);
        Check.refused("ship a tons 1:", 1, 13);
        Check.refused("slab, band 0 rate 1;", 1, 4);
        Check.refused("ship a tons 1 \n", 1, 15);
        Check.refused("call to 1 to 1 waste 1;", 1, 5);
        Check.refused("call abcdefg 1 to 1 waste 1;", 1, 5);
        Check.refused("ship a tons 1;call a 1 tons 2 waste 1;", 1, 23);
        Check.refused("ship a tons 1;call a 1 to 2;", 1, 27);
        Check.refused("ship a tons 1;call a 1 to 2 waste;", 1, 33);
        Check.refused("band rate 1;", 1, 5);
        Check.refused("band 0 percent 1;", 1, 7);
        Check.refused("rebate 2 rate 1;", 1, 9);
        Check.refused("waste free 1 fixed 1 price 1;", 1, 6);
        Check.refused("waste fixed 1 price 1 free 1;", 1, 14);
        Check.refused("waste fixed 1 free 1;", 1, 20);
        Check.refused("lay rate 1 free 1;", 1, 4);
        Check.refused("lay free 1;", 1, 10);
    }

    private static void errorState() {
        Dues x = Check.loaded("band 0 rate 2;ship a tons 5;call a 1 to 2 waste 3;");
        x.setRate(0, 7);
        Check.due("load with an error", Check.load(x, "slab;ship b tons 9;x"), PortDues.PARSE_ERROR);
        Check.due("errorCode", x.errorCode(), 1);
        Check.due("errorPosition", x.errorPosition(), 19);
        Check.due("dues behind an error", x.dues(10), 70);
        Check.due("the mode behind an error", x.tariff(0), 0);
        Check.due("ships behind an error", x.tons(0), 5);
        Check.due("undoCount behind an error", x.undoCount(), 2);
        x.undo();
        Check.due("errorCode stays behind undo", x.errorCode(), 1);
        Check.due("errorPosition stays behind undo", x.errorPosition(), 19);
        Check.due("load without an error", Check.load(x, "slab;"), 0);
        Check.due("errorCode is 0", x.errorCode(), 0);
        Check.due("errorPosition is NONE", x.errorPosition(), PortDues.NONE);
        x.undo();
        Check.due("errorCode stays 0 behind undo", x.errorCode(), 0);
        Check.due("errorPosition stays NONE behind undo", x.errorPosition(), PortDues.NONE);
        Check.due("dues behind the undone load", x.dues(10), 20);
    }

    private static void find() {
        Dues x = Check.loaded("ship a tons 1;ship ab tons 2;ship abcdef tons 3;");
        Check.due("find a", Check.find(x, "a"), 0);
        Check.due("the buffer behind find", x.append(0, 0, 0, 0, 0), 20);
        x.truncate(0);
        Check.due("find ab", Check.find(x, "ab"), 1);
        Check.due("find abcdef", Check.find(x, "abcdef"), 2);
        String[] unknown = {"", "b", "abc", "a ", " a", "a\n", "A", "\u0000a", "a\u0000", "abcdefg", "ab;"};
        for (String name : unknown) {
            Check.due("find " + name, Check.find(x, name), PortDues.NONE);
            Check.due("the buffer behind find " + name, x.append(0, 0, 0, 0, 0), 20);
            x.truncate(0);
        }
    }

    private static void outputByte() {
        Dues x = Check.loaded("ship ab tons 1;");
        Check.dueThrow("outputByte(0) of nothing", Check.INDEX, () -> x.outputByte(0));
        Check.due("length", x.writeStatement(0), 5);
        Check.due("outputByte(0)", x.outputByte(0), 'a');
        Check.due("outputByte(4)", x.outputByte(4), '\n');
        for (int index : Check.outside(0, 4)) {
            Check.dueThrow("outputByte(" + index + ")", Check.INDEX, () -> x.outputByte(index));
        }
        x.writeTariff(0);
        x.writeStatement(0);
        Check.dueThrow("outputByte(5) of a shorter output", Check.INDEX, () -> x.outputByte(5));
        Check.dueThrow("writeStatement(1)", Check.INDEX, () -> x.writeStatement(1));
        Check.due("the output stays behind a throw", x.outputByte(1), 'b');
        x.undo();
        Check.due("the output stays behind undo", x.outputByte(3), '0');
        x.append(0, 0, 0, 0, 0);
        x.load();
        Check.due("the output stays behind load", x.outputByte(3), '0');
    }
}
