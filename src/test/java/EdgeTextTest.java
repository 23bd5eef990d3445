/**
 * Section 1 (INPUT) and promises 1 to 7 and 65: a test for each sentence that names a boundary case.
 * The sentence stands above its test.
 */
final class EdgeTextTest {
    private static final String[] KEYWORDS = {"slices", "slab", "band", "rate", "rebate", "percent", "waste", "fixed",
        "free", "price", "lay", "ship", "tons", "call", "to"};

    private EdgeTextTest() {
    }

    public static void main(String[] args) {
        fullBuffer();
        bytesOfAppend();
        truncateEdges();
        oneStatementIsEnough();
        everyStatementEnds();
        lettersAndDigits();
        numbersOfAnyLength();
        symbols();
        separators();
        names();
        almostKeywords();
        namesInCalls();
        numberRanges();
        numbersAboveAnother();
        fixedWords();
        mostStatements();
        mostOfAll();
        secondStatements();
        smallestCode();
        firstTokenWithAnError();
        withoutStatements();
        numberedFromZero();
        loadAnswers();
        errorOfTheLastLoad();
        findWholeContent();
        outputEdges();
        Check.finish();
    }

    private static String times(String text, int count) {
        return text.repeat(count);
    }

    // "The input buffer holds at most 800 bytes."
    // append: "IllegalStateException if the buffer would hold more than 800 bytes"
    private static void fullBuffer() {
        String end = "ship a tons 12;";
        String full = times(" ", 800 - end.length()) + end;
        Check.accepted(full);
        Check.refused(full.substring(0, 799) + " ", 1, 800);
        Check.refused(full.substring(0, 799) + ":", 1, 799);
        Check.refused(times(" ", 799) + "x", 1, 799);
        Check.refused(times("\n", 800), 1, 800);
        Check.refused(times("a", 800), 1, 0);
        for (int length : new int[] {781, 790, 799, 800}) {
            Dues x = new Dues();
            Check.put(x, full.substring(800 - length));
            Check.dueThrow("append to " + length + " bytes", Check.STATE, () -> x.append(1, 2, 3, 4, 5));
            Check.due("the refused append changed nothing", Check.inputLength(x), length);
            Check.due("the text is whole", x.load(), 1);
        }
        Dues y = new Dues();
        Check.put(y, full.substring(0, 780));
        Check.due("append to 780 bytes", y.append(0x20202020, 0x73686970, 0x20622074, 0x6f6e7320, 0x3334353b), 800);
        Check.dueThrow("append to 800 bytes", Check.STATE, () -> y.append(0, 0, 0, 0, 0));
        Check.due("load of 800 bytes", y.load(), 1);
        Check.due("the last bytes", y.tons(0), 345);
    }

    // "Appends 20 bytes to the input buffer: the four bytes of each parameter, most significant byte first."
    private static void bytesOfAppend() {
        // Each place of the 20 has a letter of its own: a name is found there only in the right order.
        Dues x = new Dues();
        Check.due("append", x.append(0x7368_6970, 0x2061_6263, 0x6465_6620, 0x746f_6e73, 0x2037_3b0a), 20);
        Check.due("load", x.load(), 1);
        x.append(0x6162_6364, 0x6566_6768, 0x696a_6b6c, 0x6d6e_6f70, 0x7172_7374);
        x.truncate(6);
        Check.due("find", x.find(), 0);
        for (int place = 0; place < 20; place++) {
            int[] words = {0x20202020, 0x20202020, 0x20202020, 0x20202020, 0x20202020};
            // The byte 255 there, the sign bit included: it is a symbol, all before it are spaces.
            words[place / 4] |= 255 << 24 - place % 4 * 8;
            x.append(words[0], words[1], words[2], words[3], words[4]);
            Check.due("load", x.load(), PortDues.PARSE_ERROR);
            Check.due("the place of a byte", x.errorPosition(), place);
        }
        Check.due("append of bytes that are all 255", x.append(-1, -1, -1, -1, -1), 20);
        Check.due("append of the least", x.append(Integer.MIN_VALUE, 0, Integer.MAX_VALUE, 0, -1), 40);
    }

    // truncate: "length: the new length, 0 to the current length"
    private static void truncateEdges() {
        for (int length : new int[] {0, 20, 800}) {
            Dues x = new Dues();
            for (int i = 0; i < length; i += 20) {
                x.append(0x20202020, 0x20202020, 0x20202020, 0x20202020, 0x20202020);
            }
            for (int wrong : new int[] {-1, length + 1, Integer.MIN_VALUE, Integer.MAX_VALUE}) {
                Check.dueThrow("truncate(" + wrong + ") of " + length, Check.ARGUMENT, () -> x.truncate(wrong));
                Check.due("it changed nothing", Check.inputLength(x), length);
            }
            x.truncate(length);
            Check.due("truncate to the length itself", Check.inputLength(x), length);
            x.truncate(0);
            Check.due("truncate to 0", Check.inputLength(x), 0);
            Check.dueThrow("truncate(1) behind it", Check.ARGUMENT, () -> x.truncate(1));
        }
        Dues y = new Dues();
        Check.put(y, "slab;x");
        y.truncate(5);
        Check.due("the first bytes stay", y.load(), 0);
    }

    // "a text of one or more statements"; code 1: "also the end of an empty text"
    private static void oneStatementIsEnough() {
        String[] statements = {"slices;", "slab;", "band 0 rate 0;", "rebate 2 percent 0;",
            "waste fixed 0 free 0 price 0;", "lay free 0 rate 0;", "ship a tons 1;"};
        for (String statement : statements) {
            Check.accepted(statement);
        }
        Check.refused("", 1, 0);
        Check.refused(" ", 1, 1);
        Check.refused(" \n \n", 1, 4);
        Dues x = new Dues();
        Check.due("load of a buffer that was never filled", x.load(), PortDues.PARSE_ERROR);
        Check.due("its code", x.errorCode(), 1);
        Check.due("its position", x.errorPosition(), 0);
    }

    // "each statement ends with ';'"; "for the end of the text it is the text's length"
    private static void everyStatementEnds() {
        String[] statements = {"slices", "slab", "band 0 rate 0", "rebate 2 percent 0", "waste fixed 0 free 0 price 0",
            "lay free 0 rate 0", "ship b tons 1", "call a 1 to 1 waste 1"};
        String before = "ship a tons 1;";
        for (String statement : statements) {
            String text = before + statement;
            Check.accepted(text + ";");
            Check.refused(text, 1, text.length());
            Check.refused(text + " \n", 1, text.length() + 2);
            Check.refused(text + " ship c tons 1;", 1, text.length() + 1);
            Check.refused(text + ":", 1, text.length());
            Check.refused(text + ";;", 1, text.length() + 1);
            Check.refused(";" + text, 1, 0);
        }
    }

    // "a word is a maximal run of lowercase letters a-z; a number is a maximal run of decimal digits"
    private static void lettersAndDigits() {
        Check.accepted("ship a tons 1;ship z tons 9;ship azazaz tons 1090;call a 0 to 9 waste 90;");
        Dues x = Check.loaded("ship z tons 9;ship yz tons 9870;");
        Check.due("the digits", x.tons(1), 9870);
        // The bytes next to the letters and to the digits, and the capital letters, are symbols.
        for (char symbol : new char[] {'a' - 1, 'z' + 1, 'A', 'Z'}) {
            Check.refused("ship " + symbol + " tons 1;", 1, 5);
            Check.refused("ship b" + symbol + " tons 1;", 1, 6);
        }
        for (char symbol : new char[] {'0' - 1, '9' + 1}) {
            Check.refused("ship b tons " + symbol + ";", 1, 12);
            Check.refused("ship b tons 1" + symbol + ";", 1, 13);
        }
        // A run ends where another kind of token begins.
        Check.accepted("ship a tons1;band0rate5;");
        Check.refused("ship a1b tons 1;", 1, 6);
        Check.refused("ship a tons 1b;", 1, 13);
        Check.refused("slabs;", 1, 0);
        Check.refused("sla;", 1, 0);
    }

    // "a number ... of any length"
    private static void numbersOfAnyLength() {
        Dues x = Check.loaded("ship a tons " + times("0", 770) + "123;");
        Check.due("a number of 773 digits", x.tons(0), 123);
        Check.accepted("ship a tons " + times("0", 786) + "1;");
        Check.refused("ship a tons " + times("0", 787) + "1", 1, 800);
        Check.refused("ship a tons " + times("9", 788), 2, 12);
    }

    // "each other byte except space (32) and newline (10) is a symbol of its own"
    private static void symbols() {
        for (int sign = 0; sign < 256; sign++) {
            char c = (char) sign;
            boolean letter = c >= 'a' && c <= 'z';
            boolean digit = c >= '0' && c <= '9';
            if (letter || digit || c == ' ' || c == '\n') {
                continue;
            }
            Check.refused(c + "slab;", 1, 0);
            Check.refused("slab;" + c, 1, 5);
            Check.refused("ship a" + c + "tons 1;", 1, 6);
            Check.refused("ship a tons 1" + (c == ';' ? ";;" : String.valueOf(c)), 1, c == ';' ? 14 : 13);
        }
    }

    // "Spaces and newlines only separate tokens."
    private static void separators() {
        Check.accepted("\n \nship\na\n \ntons 1 \n;\n\n");
        Check.accepted("ship a tons 1;");
        Check.refused("ba nd 0 rate 1;", 1, 0);
        Check.refused("ship a b tons 1;", 1, 7);
        Check.refused("ship a to ns 1;", 1, 7);
        Check.refused("ship a tons 1 2;", 1, 14);
        Check.refused("ship a tons 1\n2;", 1, 14);
        Check.refused("shipa tons 1;", 1, 0);
        Check.refused("ship atons 1;", 1, 11);
    }

    // "NAME is a word of 1 to 6 letters that is not a keyword"
    private static void names() {
        Check.accepted("ship x tons 1;");
        Check.accepted("ship sixsix tons 1;");
        Check.refused("ship sevense tons 1;", 1, 5);
        Check.refused("ship " + times("x", 700) + " tons 1;", 1, 5);
        Check.refused("ship tons 1;", 1, 5);
        for (String keyword : KEYWORDS) {
            Check.refused("ship " + keyword + " tons 1;", 1, 5);
            // A letter more or less makes another word of it; "slicesx" and "percentx" are too long.
            String shorter = keyword.substring(1);
            Check.accepted("ship " + shorter + " tons 1;");
            if (keyword.length() < 6) {
                Check.accepted("ship " + keyword + "x tons 1;");
                Check.accepted("ship x" + keyword + " tons 1;");
            }
        }
    }

    // Each letter of a keyword counts: another one in its place makes a NAME of it, and no statement.
    private static void almostKeywords() {
        for (String keyword : KEYWORDS) {
            for (int i = 0; i < keyword.length(); i++) {
                String almost = withOtherLetter(keyword, i);
                if (almost.length() <= 6) {
                    Check.accepted("ship " + almost + " tons 1;");
                    Check.accepted("ship " + almost + " tons 1;call " + almost + " 1 to 1 waste 1;");
                }
            }
        }
        String[] statements = {"slices;", "slab;", "band 0 rate 1;", "rebate 2 percent 1;", "waste fixed 1 free 1 price 1;",
            "lay free 1 rate 1;", "ship b tons 1;", "call a 1 to 1 waste 1;"};
        for (String statement : statements) {
            String text = "ship a tons 1;" + statement;
            Check.accepted(text);
            for (int i = 14; i < text.length(); i++) {
                int start = i;
                while (Character.isLetter(text.charAt(start - 1))) {
                    start--;
                }
                boolean name = text.charAt(start - 1) == ' ' && !Character.isLetter(text.charAt(start + 1));
                if (Character.isLetter(text.charAt(i)) && !name) {
                    Check.refused(withOtherLetter(text, i), 1, start);
                }
            }
        }
    }

    private static String withOtherLetter(String text, int place) {
        char other = text.charAt(place) == 'q' ? 'z' : 'q';
        return text.substring(0, place) + other + text.substring(place + 1);
    }

    // "a call of a ship of an earlier statement"; code 3: "in a call a NAME that no ship has"
    private static void namesInCalls() {
        String ship = "ship ab tons 1;";
        Check.accepted(ship + "call ab 1 to 1 waste 1;");
        for (String other : new String[] {"a", "b", "abc", "ba", "aab", "sixsix"}) {
            Check.refused(ship + "call " + other + " 1 to 1 waste 1;", 3, 20);
        }
        Check.refused("call ab 1 to 1 waste 1;" + ship, 3, 5);
        Check.refused(ship + "call b 1 to 1 waste 1;ship b tons 1;", 3, 20);
        // The ship of another text is none of this one.
        Dues x = Check.loaded(ship);
        Check.due("load", Check.load(x, "call ab 1 to 1 waste 1;"), PortDues.PARSE_ERROR);
        Check.due("errorCode", x.errorCode(), 3);
        for (String keyword : KEYWORDS) {
            Check.refused(ship + "call " + keyword + " 1 to 1 waste 1;", 1, 20);
        }
        Check.refused(ship + "call 1 to 1 waste 1;", 1, 20);
        // code 3: "the NAME of a ship that another ship has"
        Check.refused("ship ab tons 1;ship ab tons 2;", 3, 20);
        Check.refused("ship a tons 1;ship ab tons 1;ship a", 3, 34);
        Check.accepted("ship a tons 1;ship ab tons 1;ship b tons 1;ship ba tons 1;");
    }

    // Each N of the statements with its range; code 2: "a number is out of range"
    private static void numberRanges() {
        String ship = "ship a tons 1;";
        slot("band ", " rate 1;", 0, 0);
        slot("band 0 rate ", ";", 0, 999);
        slot("band 0 rate 1;band ", " rate 1;", 1, 9999);
        slot("band 0 rate 1;band 5 rate 1;band ", " rate 1;", 6, 9999);
        slot("band 0 rate 1;band 1 rate ", ";", 0, 999);
        slot("rebate ", " percent 1;", 2, 99);
        slot("rebate 2 percent 1;rebate ", " percent 1;", 3, 99);
        slot("rebate 2 percent ", ";", 0, 100);
        slot("waste fixed ", " free 1 price 1;", 0, 9999);
        slot("waste fixed 1 free ", " price 1;", 0, 999);
        slot("waste fixed 1 free 1 price ", ";", 0, 999);
        slot("lay free ", " rate 1;", 0, 30);
        slot("lay free 1 rate ", ";", 0, 9999);
        slot("ship b tons ", ";", 1, 9999);
        slot(ship + "call a 0 to ", " waste 1;", 0, 29);
        slot(ship + "call a 7 to ", " waste 1;", 7, 36);
        slot(ship + "call a 3599 to ", " waste 1;", 3599, 3628);
        slot(ship + "call a 7 to 7 waste ", ";", 0, 999);
        // The first day has a last day that goes with it.
        Check.accepted(ship + "call a 0 to 0 waste 1;");
        Check.accepted(ship + "call a 3599 to 3599 waste 1;");
        Check.refused(ship + "call a 3600 to 3600 waste 1;", 2, 21);
        Check.refused(ship + "call a 4294967296 to 0 waste 1;", 2, 21);
        Check.refused(ship + "call a x to 0 waste 1;", 1, 21);
    }

    /** A number stands between two texts: what it may be, what not, and what is no number. */
    private static void slot(String before, String after, int lowest, int highest) {
        for (int number : new int[] {lowest, highest, (lowest + highest) / 2}) {
            Check.accepted(before + number + after);
            Check.accepted(before + times("0", 300) + number + after);
        }
        if (lowest > 0) {
            Check.refused(before + (lowest - 1) + after, 2, before.length());
            Check.refused(before + 0 + after, 2, before.length());
        }
        Check.refused(before + (highest + 1) + after, 2, before.length());
        Check.refused(before + "99999" + after, 2, before.length());
        Check.refused(before + "100000" + after, 2, before.length());
        // Where an int or a long would wrap around to a number that is allowed.
        long two32 = 1L << 32;
        Check.refused(before + (two32 + lowest) + after, 2, before.length());
        Check.refused(before + Integer.MAX_VALUE + after, 2, before.length());
        Check.refused(before + (1L << 31) + after, 2, before.length());
        java.math.BigInteger two64 = java.math.BigInteger.ONE.shiftLeft(64);
        Check.refused(before + two64.add(java.math.BigInteger.valueOf(lowest)) + after, 2, before.length());
        Check.refused(before + times("9", 300) + after, 2, before.length());
        Check.refused(before + "1" + times("0", 320) + after, 2, before.length());
        for (String other : new String[] {"x", "rate", "-1", "+1", ".5", ";", "call"}) {
            Check.refused(before + other + after, 1, before.length());
        }
        Check.refused(before, 1, before.length());
        Check.refused(before.trim(), 1, before.trim().length());
    }

    // band: "for another one greater than that of the band before it"; rebate the same
    private static void numbersAboveAnother() {
        Check.accepted("band 0 rate 1;band 1 rate 1;band 2 rate 1;band 9998 rate 1;band 9999 rate 1;");
        for (int number : new int[] {0, 1, 6, 7}) {
            Check.refused("band 0 rate 1;band 7 rate 1;band " + number + " rate 1;", 2, 33);
        }
        // No number is left behind 9999, and none behind 99.
        for (int number : new int[] {0, 9998, 9999, 10000}) {
            Check.refused("band 0 rate 1;band 9999 rate 1;band " + number + " rate 1;", 2, 36);
        }
        Check.accepted("rebate 2 percent 1;rebate 3 percent 1;rebate 98 percent 1;rebate 99 percent 1;");
        for (int number : new int[] {0, 1, 2, 6, 7, 100}) {
            Check.refused("rebate 7 percent 1;rebate " + number + " percent 1;", 2, 26);
        }
        for (int number : new int[] {0, 2, 98, 99, 100}) {
            Check.refused("rebate 99 percent 1;rebate " + number + " percent 1;", 2, 27);
        }
        // Rates and percentages need not grow.
        Check.accepted("band 0 rate 9;band 5 rate 9;band 6 rate 0;rebate 2 percent 50;rebate 3 percent 0;");
    }

    // code 1: "the token cannot stand here"
    private static void fixedWords() {
        String ship = "ship a tons 1;";
        String[] statements = {"band 0 rate 1;", "rebate 2 percent 1;", "waste fixed 1 free 1 price 1;",
            "lay free 1 rate 1;", "ship b tons 1;", "call a 1 to 1 waste 1;", "slab;"};
        String[] others = {"x", "ratex", "rat", "5", "-", ";", "ship", "to", "rate", "free", "ab"};
        for (String statement : statements) {
            String[] tokens = statement.replace(";", " ;").split(" ");
            for (int i = 1; i < tokens.length; i++) {
                boolean fixed = tokens[i].equals(";") || tokens[i].length() > 1;
                for (String other : others) {
                    if (!fixed || other.equals(tokens[i])) {
                        continue;
                    }
                    String before = ship + joined(tokens, 0, i);
                    Check.refused(before + other + " " + joined(tokens, i + 1, tokens.length), 1, before.length());
                }
            }
        }
        for (String first : new String[] {"rate", "percent", "fixed", "free", "price", "tons", "to", "x", "1", "bands"}) {
            Check.refused(first + " 0 rate 1;", 1, 0);
            Check.refused(ship + first, 1, 14);
        }
    }

    private static String joined(String[] tokens, int from, int to) {
        StringBuilder text = new StringBuilder();
        for (int i = from; i < to; i++) {
            text.append(tokens[i]).append(' ');
        }
        return text.toString();
    }

    private static String rows(String before, String after, int first, int count) {
        StringBuilder text = new StringBuilder();
        for (int i = 0; i < count; i++) {
            text.append(before).append(first + i).append(after);
        }
        return text.toString();
    }

    private static String ships(int count) {
        StringBuilder text = new StringBuilder();
        for (int i = 0; i < count; i++) {
            text.append("ship ").append((char) ('a' + i)).append(" tons 1;");
        }
        return text.toString();
    }

    // "At most 6 bands", "At most 4 rebates", "At most 8 ships", "At most 20 calls in a text";
    // code 4: "the first word of a seventh band, fifth rebate, ninth ship or 21st call statement"
    private static void mostStatements() {
        most(rows("band ", " rate 1;", 0, 6), "band", "band 6 rate 1;");
        most(rows("rebate ", " percent 1;", 2, 4), "rebate", "rebate 6 percent 1;");
        most(ships(8), "ship", "ship i tons 1;");
        most(ships(1) + rows("call a ", " to 30 waste 1;", 1, 20), "call", "call a 1 to 1 waste 1;");
        // Other statements between them do not count.
        most("band 0 rate 1;slab;" + rows("band ", " rate 1;", 1, 5) + "ship a tons 1;", "band", "band 9 rate 1;");
        most(ships(4) + "call a 1 to 1 waste 1;band 0 rate 1;ship v tons 1;ship w tons 1;ship x tons 1;ship y tons 1;",
                "ship", "ship z tons 1;");
    }

    private static void most(String full, String word, String more) {
        Check.accepted(full);
        Check.refused(full + more, 4, full.length());
        Check.refused(full + "\n" + word, 4, full.length() + 1);
        Check.refused(full + word + " ;", 4, full.length());
        // Where a statement cannot begin it is the smaller code 1.
        Check.refused(full.substring(0, full.length() - 1) + " " + word, 1, full.length());
    }

    private static void mostOfAll() {
        String text = "slab;waste fixed 1 free 1 price 1;" + rows("band ", " rate 1;", 0, 6)
                + rows("rebate ", " percent 1;", 2, 4) + ships(8) + rows("call h ", " to 30 waste 1;", 1, 20);
        Dues x = new Dues();
        Check.due("load", Check.load(x, text), 8);
        int[] counts = {8, 20, 0, 0, 0, 0, 6, 4, 0};
        for (int what = 0; what < counts.length; what++) {
            Check.due("count(" + what + ")", x.count(what), counts[what]);
        }
        // "At most 20 calls in a text" is no limit for those that come later.
        Check.due("the 21st call", x.addCall(0, 0, 0, 0), 20);
    }

    // "At most one of the statements slices and slab, at most one waste and one lay."
    // code 3: "the first word of a second statement of a mode, of waste or of lay"
    private static void secondStatements() {
        String[] modes = {"slices", "slab"};
        for (String one : modes) {
            for (String two : modes) {
                Check.refused(one + ";" + two + ";", 3, one.length() + 1);
                Check.refused(one + ";ship a tons 1;" + two, 3, one.length() + 15);
            }
        }
        String waste = "waste fixed 1 free 1 price 1;";
        Check.refused(waste + waste, 3, 29);
        Check.refused(waste + "slab;waste", 3, 34);
        String lay = "lay free 1 rate 1;";
        Check.refused(lay + lay, 3, 18);
        Check.refused(lay + waste + "lay 7", 3, 47);
        Check.accepted("slab;" + lay + waste);
        // The word waste in a call is no statement of waste.
        Check.accepted(waste + "ship a tons 1;call a 1 to 1 waste 1;call a 1 to 1 waste 1;");
    }

    // "if that token has several errors, the smallest code counts"
    private static void smallestCode() {
        // It is no NAME (1), and no ship has it (3).
        Check.refused("ship a tons 1;call sevense 1 to 1 waste 1;", 1, 19);
        Check.refused("ship a tons 1;call lay 1 to 1 waste 1;", 1, 19);
        // It is out of range (2), and a number cannot stand there (1).
        Check.refused("ship 99999 tons 1;", 1, 5);
        Check.refused("99999;", 1, 0);
        // A second mode (3), a seventh band (4) where no statement can begin (1).
        Check.refused("slab slab;", 1, 5);
        Check.refused(rows("band ", " rate 1;", 0, 5) + "band 5 rate band", 1, 82);
        Check.refused("lay free 1 rate 1 lay;", 1, 18);
    }

    // "The parser reads tokens from left to right and stops at the first token that has an error"
    private static void firstTokenWithAnError() {
        Check.refused("band 1 rate 1000", 2, 5);
        Check.refused("slab;slices;band 1", 3, 5);
        Check.refused("ship a tons 0;ship a tons 0;", 2, 12);
        Check.refused("ship a tons 1;ship a tonz 0;", 3, 19);
        Check.refused("ship a tonz 0;ship a tons 1;", 1, 7);
        Check.refused(ships(8) + "call z;" + "ship i", 3, 14 * 8 + 5);
        Check.refused(ships(8) + "ship i;" + "call z", 4, 14 * 8);
        Check.refused("ship a tons 1;call a 7 to 6 waste 1000;", 2, 26);
        Check.refused("ship a tons 1;call a 3600 to 3599", 2, 21);
    }

    // waste: "All are 0 without it"; lay: "30 and 0 without it"; "slices without a statement of a mode"
    private static void withoutStatements() {
        int[] without = {0, 0, 0, 0, 30, 0};
        Dues x = Check.loaded("ship a tons 1;");
        Dues later = Check.loaded("slab;waste fixed 1 free 2 price 3;lay free 4 rate 5;");
        Check.load(later, "ship a tons 1;");
        for (int what = 0; what < without.length; what++) {
            Check.due("tariff(" + what + ")", x.tariff(what), without[what]);
            Check.due("tariff(" + what + ") behind another text", later.tariff(what), without[what]);
        }
        int[] least = {0, 0, 0, 0, 0, 0};
        int[] greatest = {1, 9999, 999, 999, 30, 9999};
        Dues low = Check.loaded("slices;waste fixed 0 free 0 price 0;lay free 0 rate 0;");
        Dues high = Check.loaded("slab;waste fixed 9999 free 999 price 999;lay free 30 rate 9999;");
        for (int what = 0; what < without.length; what++) {
            Check.due("the least tariff(" + what + ")", low.tariff(what), least[what]);
            Check.due("the greatest tariff(" + what + ")", high.tariff(what), greatest[what]);
        }
    }

    // "Bands, rebates, ships and calls are numbered from 0 each."
    private static void numberedFromZero() {
        Dues x = Check.loaded("ship b tons 5;rebate 3 percent 7;band 0 rate 2;call b 9 to 9 waste 1;ship a tons 6;"
                + "band 4 rate 1;call a 8 to 8 waste 2;rebate 4 percent 9;call b 7 to 7 waste 3;");
        Check.due("ship 0", x.tons(0), 5);
        Check.due("ship 1", x.tons(1), 6);
        Check.due("find of ship 1", Check.find(x, "a"), 1);
        Check.due("band 0", x.band(0, 1), 2);
        Check.due("band 1", x.band(1, 1), 1);
        Check.due("rebate 0", x.rebate(0, 1), 7);
        Check.due("rebate 1", x.rebate(1, 1), 9);
        for (int call = 0; call < 3; call++) {
            Check.due("ship of call " + call, x.call(call, 0), call % 2);
            Check.due("first day of call " + call, x.call(call, 1), 9 - call);
            Check.due("waste of call " + call, x.call(call, 3), call + 1);
        }
    }

    // load: "Parses the input buffer and empties it." "Returns the number of ships; PARSE_ERROR if there is a
    // parse error (then only the buffer and the parse error change)."
    private static void loadAnswers() {
        Dues x = new Dues();
        Check.due("load of no ship", Check.load(x, "slab;"), 0);
        Check.due("the buffer is empty", Check.inputLength(x), 0);
        Check.due("load of 8 ships", Check.load(x, ships(8)), 8);
        Check.due("the buffer is empty", Check.inputLength(x), 0);
        x.addCall(7, 0, 29, 9);
        x.writeTariff(0);
        String output = Check.rest(x);
        String before = Check.rows(x);
        int undos = x.undoCount();
        x.writeTariff(0);
        for (String broken : new String[] {"", "slab", "slab;band 0 rate 1;ship q tons 1;call q 1 to 1 waste 1;;"}) {
            Check.due("load with an error", Check.load(x, broken), PortDues.PARSE_ERROR);
            Check.due("the buffer is empty behind it", Check.inputLength(x), 0);
            Check.due("the output behind it", Check.rest(x), output);
            Check.due("nothing can be undone of it", x.undoCount(), undos);
        }
        Check.due("the ledger behind it", Check.rows(x), before);
        Check.due("a ship of the broken text", Check.find(x, "q"), PortDues.NONE);
    }

    // errorCode: "0 if it had none or there was no load()"; errorPosition: "NONE if it had none or there was no load()"
    private static void errorOfTheLastLoad() {
        Dues x = new Dues();
        dueError(x, 0, PortDues.NONE);
        x.append(0, 0, 0, 0, 0);
        x.find();
        dueError(x, 0, PortDues.NONE);
        Check.load(x, "slab;slab;");
        dueError(x, 3, 5);
        Check.load(x, "band 1");
        dueError(x, 2, 5);
        x.find();
        Check.put(x, "x");
        dueError(x, 2, 5);
        x.load();
        dueError(x, 1, 0);
        x.advance(1);
        x.undo();
        dueError(x, 1, 0);
        Check.load(x, "slab;");
        dueError(x, 0, PortDues.NONE);
        Check.load(x, ships(8) + "ship");
        dueError(x, 4, 112);
        x.undo();
        dueError(x, 4, 112);
    }

    private static void dueError(Dues x, int code, int position) {
        Check.due("errorCode", x.errorCode(), code);
        Check.due("errorPosition", x.errorPosition(), position);
    }

    // find: "the whole content of the input buffer, byte by byte. The buffer is empty afterwards." "NONE if there is none"
    private static void findWholeContent() {
        Dues x = new Dues();
        Check.due("find in an empty ledger", Check.find(x, "a"), PortDues.NONE);
        Check.due("find of nothing in an empty ledger", x.find(), PortDues.NONE);
        Check.load(x, "ship a tons 1;ship abcdef tons 1;ship abcde tons 1;" + "ship z tons 1;");
        String[] known = {"a", "abcdef", "abcde", "z"};
        for (int i = 0; i < known.length; i++) {
            Check.due("find of " + known[i], Check.find(x, known[i]), i);
            Check.due("the buffer is empty", Check.inputLength(x), 0);
            String[] others = {known[i] + " ", " " + known[i], known[i] + "\n", known[i] + ";", known[i] + "\u0000",
                known[i].toUpperCase(), (char) (known[i].charAt(0) + 128) + known[i].substring(1), known[i] + known[i]};
            for (String other : others) {
                Check.due("find of " + other, Check.find(x, other), PortDues.NONE);
                Check.due("the buffer is empty", Check.inputLength(x), 0);
            }
        }
        Check.due("find of nothing", x.find(), PortDues.NONE);
        Check.due("find of 800 bytes", Check.find(x, times("a", 800)), PortDues.NONE);
        Check.due("the buffer is empty", Check.inputLength(x), 0);
        Check.load(x, "ship abcdef tons 1;");
        Check.due("a name of the text before", Check.find(x, "abcde"), PortDues.NONE);
        x.undo();
        Check.due("the name is back", Check.find(x, "abcde"), 2);
        Check.due("find cannot be undone", x.undoCount(), 1);
    }

    // outputByte: "IndexOutOfBoundsException if index is negative or not less than the output's length"
    private static void outputEdges() {
        Dues x = new Dues();
        for (int index : new int[] {-1, 0, 1, Integer.MIN_VALUE, Integer.MAX_VALUE}) {
            Check.dueThrow("outputByte(" + index + ") of nothing", Check.INDEX, () -> x.outputByte(index));
        }
        Check.load(x, "ship a tons 1;ship abcdef tons 1;");
        int longer = x.writeStatement(1);
        Check.due("the longer output", longer, 9);
        Check.due("its first byte", x.outputByte(0), 'a');
        Check.due("its last byte", x.outputByte(8), '\n');
        Check.dueThrow("the byte behind it", Check.INDEX, () -> x.outputByte(9));
        int shorter = x.writeStatement(0);
        Check.due("the shorter output", shorter, 4);
        Check.due("its last byte", x.outputByte(3), '\n');
        Check.dueThrow("the byte behind it", Check.INDEX, () -> x.outputByte(4));
        Check.dueThrow("the byte before it", Check.INDEX, () -> x.outputByte(-1));
    }
}
