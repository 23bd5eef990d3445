/** The example of README.md; ReadmeTest looks whether both are the same. */
final class Example {
    private Example() {
    }

    public static void main(String[] args) {
        PortDues ledger = new PortDues();
        put(ledger, "band 0 rate 2; band 100 rate 3; rebate 2 percent 10;\n"
                + "waste fixed 5 free 10 price 2; lay free 2 rate 7;\n"
                + "ship anna tons 150; call anna 10 to 14 waste 12;\n");
        if (ledger.load() == PortDues.PARSE_ERROR) {
            System.out.println("error " + ledger.errorCode() + " at " + ledger.errorPosition());
            return;
        }
        put(ledger, "anna");
        int ship = ledger.find();
        int call = ledger.addCall(ship, 20, 21, 0);
        System.out.println("its rank " + ledger.call(call, 5) + ", its total " + ledger.callTotal(call));
        ledger.billAll(ship);
        ledger.dispute(0, 3);
        ledger.pay(ship, 400);
        print(ledger, ledger.writeInvoice(0));
        print(ledger, ledger.writeStatement(ship));
        System.out.println("calls that undo() takes back: " + ledger.undoCount());
        ledger.undo();
        System.out.println("paid without the payment: " + ledger.paid(ship));
        try {
            ledger.bill(call);
        } catch (IllegalStateException e) {
            System.out.println("the call is billed");
        }
    }

    /** append() takes 20 bytes at a time; truncate() cuts off those behind the text. */
    private static void put(PortDues ledger, String text) {
        for (int i = 0; i < text.length(); i += 20) {
            ledger.append(four(text, i), four(text, i + 4), four(text, i + 8), four(text, i + 12), four(text, i + 16));
        }
        ledger.truncate(text.length());
    }

    private static int four(String text, int from) {
        int bytes = 0;
        for (int i = from; i < from + 4; i++) {
            bytes = bytes << 8 | (i < text.length() ? text.charAt(i) : 0);
        }
        return bytes;
    }

    private static void print(PortDues ledger, int length) {
        for (int i = 0; i < length; i++) {
            System.out.print((char) ledger.outputByte(i));
        }
    }
}
