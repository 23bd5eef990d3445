import java.lang.reflect.InvocationTargetException;
import java.lang.reflect.Method;
import java.lang.reflect.Modifier;
import java.util.Arrays;
import java.util.Set;
import java.util.TreeSet;

/**
 * The throws clauses of the document as a table: for each method what makes it throw, in the order of the
 * clause. All combinations of the least and the greatest values that are allowed, of those just outside and
 * of the ends of int are called in three ledgers: an empty one, an open one and a full one.
 * "If several exceptions apply, the one that is named first in the method's throws clause is thrown. A call
 * that throws changes nothing."
 */
final class RefusalTest {
    /** What a call may change if it does not throw: nothing, what undo() restores, or a buffer. */
    private enum Kind { QUERY, CHANGE, BUFFER }

    private interface Test {
        boolean of(int[] a);
    }

    private interface Maker {
        Dues make();
    }

    private static final Test NEVER = a -> false;

    private static final int[] FIRST_DAYS = {-1, 0, 3500, 3599, 3600, Integer.MIN_VALUE, Integer.MAX_VALUE};
    private static final int[] LAST_DAYS = {-1, 0, 29, 30, 3499, 3500, 3529, 3530, 3598, 3599, 3628, 3629,
        Integer.MIN_VALUE, Integer.MIN_VALUE + 28, Integer.MAX_VALUE};
    private static final int[] BEST_TO = {-1, 0, 99, 100, 3499, 3500, 3599, 3600, Integer.MIN_VALUE,
        Integer.MIN_VALUE + 98, Integer.MAX_VALUE};
    private static final int[] DAYS = {-33, -32, -31, -1, 0, 1, 2, 3, 4, 5, 6, 28, 29, 30, 31, 32, 33, 34, 35, 61, 64, 66,
        Integer.MIN_VALUE, Integer.MIN_VALUE + 2, Integer.MAX_VALUE};

    /** A ledger, and what of it decides whether a call is refused, written down by hand. */
    private static final class Scene {
        String name;
        Maker maker;
        int ships;
        int calls;
        int invoices;
        int notes;
        int bands;
        int rebates;
        int version;
        int today;
        int undos;
        int inputLength;
        String output = "";
        // of each call
        boolean[] canCancel = {};
        boolean[] canBill = {};
        boolean[] cancelled = {};
        int[] lay = {};
        int[] pending = {};
        int[] upheld = {};
        // of each invoice: the lines that it has and that are not credited
        int[] standing = {};
    }

    private final Scene scene;
    // Check.whole() of the ledger if no call is made
    private final String untouched;
    private final Set<String> tested = new TreeSet<>();

    private RefusalTest(Scene scene) {
        this.scene = scene;
        untouched = Check.whole(scene.maker.make());
    }

    public static void main(String[] args) {
        for (Scene scene : new Scene[] {emptyScene(), openScene(), fullScene()}) {
            RefusalTest test = new RefusalTest(scene);
            test.dueScene();
            test.buffers();
            test.tariff();
            test.shipsAndCalls();
            test.invoices();
            test.whatWouldBe();
            test.changesOfCalls();
            test.changesOfInvoices();
            test.changesOfTheTariff();
            test.sheets();
            test.dueAllMethods();
        }
        Check.finish();
    }

    // ---- the three ledgers

    private static Scene emptyScene() {
        Scene s = new Scene();
        s.name = "empty";
        s.maker = Dues::new;
        return s;
    }

    private static final String OPEN = "band 0 rate 2;band 100 rate 3;rebate 2 percent 10;rebate 4 percent 50;"
            + "waste fixed 5 free 10 price 2;lay free 2 rate 7;ship a tons 150;ship bee tons 99;"
            + "call a 10 to 14 waste 12;call a 20 to 20 waste 0;"
            + "call bee 370 to 373 waste 30;call a 500 to 505 waste 0;call a 359 to 388 waste 1;";

    private static Scene openScene() {
        Scene s = new Scene();
        s.name = "open";
        s.maker = RefusalTest::open;
        s.ships = 2;
        s.calls = 5;
        s.invoices = 2;
        s.notes = 2;
        s.bands = 2;
        s.rebates = 2;
        s.version = 1;
        s.today = 5;
        s.undos = 6;
        s.inputLength = 14;
        s.output = "bee\n1 14 14\n14\n";
        s.canCancel = new boolean[] {false, true, false, false, true};
        s.canBill = new boolean[] {true, true, true, false, true};
        s.cancelled = new boolean[] {false, false, false, true, false};
        s.lay = new int[] {0x1c, 0, 0xc, 0x3c, 0x3ffffffc};
        s.pending = new int[] {4, 0, 0, 0x20, 0};
        s.upheld = new int[] {8, 0, 0, 0, 0x20000000};
        s.standing = new int[] {11, 8};
        return s;
    }

    /** Call 0 is billed but for its waste, of call 2 only days are billed, call 3 is cancelled. */
    private static Dues open() {
        Dues x = Check.loaded(OPEN);
        x.bill(0);
        x.bill(2);
        x.credit(0, 4);
        x.credit(1, 7);
        x.dispute(3, 5);
        x.cancel(3);
        x.dispute(4, 29);
        x.settle(4, 29, true);
        x.setPercent(1, 60);
        x.advance(5);
        x.dispute(0, 2);
        x.dispute(0, 3);
        x.settle(0, 3, true);
        x.pay(0, 400);
        Check.load(x, "slab;slab;");
        x.writeStatement(1);
        Check.put(x, "ship q tons 1;");
        return x;
    }

    private static final String FULL = "slab;band 0 rate 2;band 1 rate 3;band 2 rate 1;band 3 rate 1;band 4 rate 1;"
            + "band 5 rate 999;rebate 2 percent 10;rebate 3 percent 50;rebate 4 percent 1;rebate 5 percent 100;"
            + "lay free 0 rate 7;ship a tons 1;ship b tons 2;ship c tons 3;ship d tons 4;ship e tons 5;ship f tons 6;ship g tons 7;ship h tons 9999;";

    private static Scene fullScene() {
        Scene s = new Scene();
        s.name = "full";
        s.maker = RefusalTest::full;
        s.ships = 8;
        s.calls = 40;
        s.invoices = 60;
        s.notes = 40;
        s.bands = 6;
        s.rebates = 4;
        s.version = 20;
        s.today = 99999;
        s.undos = 6;
        s.inputLength = 800;
        s.output = "version 20\nslab\nband 0 rate 18\nband 1 rate 19 changed\nband 2 rate 14\nband 3 rate 15\nband 4 rate 16\n"
                + "band 5 rate 17\nrebate 2 percent 10\nrebate 3 percent 50\nrebate 4 percent 1\nrebate 5 percent 100\n"
                + "waste fixed 0 free 0 price 0\nlay free 0 rate 7\n";
        s.canCancel = new boolean[40];
        s.canBill = new boolean[40];
        s.cancelled = new boolean[40];
        s.lay = new int[40];
        Arrays.fill(s.lay, 0x3fffffff);
        s.pending = new int[40];
        s.pending[0] = 0x20000001;
        s.upheld = new int[40];
        s.upheld[0] = 4;
        s.standing = new int[60];
        Arrays.fill(s.standing, 20, 40, 14);
        Arrays.fill(s.standing, 40, 60, 15);
        return s;
    }

    /** Of 20 calls all is credited and billed once more, of the others the dues could be billed if there was room. */
    private static Dues full() {
        Dues x = Check.loaded(FULL);
        for (int i = 0; i < 40; i++) {
            x.addCall(i % 8, 3599, 3628, 999);
            x.bill(i);
        }
        for (int i = 0; i < 20; i++) {
            x.credit(i, 15);
            x.bill(i);
            x.credit(20 + i, 1);
            x.setRate(i % 6, i);
        }
        for (int i = 0; i < 27; i++) {
            x.advance(3600);
        }
        x.advance(2799);
        x.dispute(0, 0);
        x.dispute(0, 2);
        x.dispute(0, 29);
        x.settle(0, 2, true);
        x.writeTariff(20);
        Check.put(x, "slab;" + " ".repeat(795));
        return x;
    }

    /** The ledger is what has been written down of it. */
    private void dueScene() {
        Dues x = scene.maker.make();
        String name = scene.name + ": ";
        Check.due(name + "the output", Check.rest(x), scene.output);
        Check.due(name + "the input", Check.inputLength(x), scene.inputLength);
        Check.due(name + "undoCount", x.undoCount(), scene.undos);
        int[] counts = {scene.ships, scene.calls, scene.invoices, scene.notes, scene.version, scene.today, scene.bands,
            scene.rebates};
        for (int what = 0; what < counts.length; what++) {
            Check.due(name + "count(" + what + ")", x.count(what), counts[what]);
        }
        for (int call = 0; call < scene.calls; call++) {
            Check.due(name + "layDays", x.layDays(call), scene.lay[call]);
            Check.due(name + "pending", x.pending(call), scene.pending[call]);
            Check.due(name + "upheld", x.upheld(call), scene.upheld[call]);
            Check.due(name + "cancelled", x.call(call, 4), scene.cancelled[call] ? 1 : 0);
        }
        for (int invoice = 0; invoice < scene.invoices; invoice++) {
            Check.due(name + "lines", x.invoice(invoice, 3) & ~x.invoice(invoice, 4), scene.standing[invoice]);
        }
    }

    // ---- values and tests of them

    /** The least and the greatest value, those just outside, and the ends of int. */
    private static int[] edges(int lowest, int highest) {
        return new int[] {lowest - 1, lowest, highest, highest + 1, Integer.MIN_VALUE, Integer.MAX_VALUE};
    }

    private static int[] numbers(int count) {
        return edges(0, count - 1);
    }

    private static int[] from(int lowest, int highest) {
        int[] all = new int[highest - lowest + 3];
        for (int i = 0; i <= highest - lowest; i++) {
            all[i] = lowest + i;
        }
        all[all.length - 2] = Integer.MIN_VALUE;
        all[all.length - 1] = Integer.MAX_VALUE;
        return all;
    }

    private static Test out(int place, long lowest, long highest) {
        return a -> a[place] < lowest || a[place] > highest;
    }

    private static Test no(int place, int count) {
        return out(place, 0, count - 1);
    }

    private static Test or(Test... tests) {
        return a -> {
            for (Test test : tests) {
                if (test.of(a)) {
                    return true;
                }
            }
            return false;
        };
    }

    private static Test when(boolean always) {
        return a -> always;
    }

    private static boolean has(int set, int day) {
        return day >= 0 && day < 30 && (set >> day & 1) == 1;
    }

    /** first at one place, last and waste behind it */
    private static Test badStay(int first) {
        Test badLast = a -> a[first + 1] < a[first] || a[first + 1] > (long) a[first] + 29;
        return or(out(first, 0, 3599), badLast, out(first + 2, 0, 999));
    }

    // ---- the rows of the table

    private void buffers() {
        int[] words = {0, -1, Integer.MIN_VALUE, Integer.MAX_VALUE};
        int[] one = {0x20202020};
        row(Kind.BUFFER, "append", NEVER, NEVER, when(scene.inputLength + 20 > 800), words, one, one, one, words);
        row(Kind.BUFFER, "truncate", NEVER, out(0, 0, scene.inputLength), NEVER, edges(0, scene.inputLength));
        row(Kind.QUERY, "outputByte", no(0, scene.output.length()), NEVER, NEVER, numbers(scene.output.length()));
        row(Kind.BUFFER, "load", NEVER, NEVER, NEVER);
        row(Kind.BUFFER, "find", NEVER, NEVER, NEVER);
        row(Kind.QUERY, "errorCode", NEVER, NEVER, NEVER);
        row(Kind.QUERY, "errorPosition", NEVER, NEVER, NEVER);
        row(Kind.QUERY, "undoCount", NEVER, NEVER, NEVER);
        row(Kind.BUFFER, "undo", NEVER, NEVER, when(scene.undos == 0));
    }

    private void tariff() {
        row(Kind.QUERY, "count", NEVER, out(0, 0, 8), NEVER, edges(0, 8));
        row(Kind.QUERY, "tariff", NEVER, out(0, 0, 5), NEVER, edges(0, 5));
        row(Kind.QUERY, "band", no(0, scene.bands), out(1, 0, 1), NEVER, numbers(scene.bands), edges(0, 1));
        row(Kind.QUERY, "rebate", no(0, scene.rebates), out(1, 0, 1), NEVER, numbers(scene.rebates), edges(0, 1));
        row(Kind.QUERY, "bandOf", NEVER, out(0, 0, 9999), NEVER, edges(0, 9999));
        row(Kind.QUERY, "dues", NEVER, out(0, 0, 9999), NEVER, edges(0, 9999));
        row(Kind.QUERY, "tonsIn", no(1, scene.bands), out(0, 0, 9999), NEVER, edges(0, 9999), numbers(scene.bands));
        row(Kind.QUERY, "wasteFee", NEVER, out(0, 0, 999), NEVER, edges(0, 999));
    }

    private void shipsAndCalls() {
        for (String name : new String[] {"tons", "balance", "paid", "oldestOpen", "busiestYear"}) {
            row(Kind.QUERY, name, no(0, scene.ships), NEVER, NEVER, numbers(scene.ships));
        }
        for (String name : new String[] {"calls", "rebates", "callsToRebate"}) {
            row(Kind.QUERY, name, no(0, scene.ships), out(1, 0, 9), NEVER, numbers(scene.ships), edges(0, 9));
        }
        for (String name : new String[] {"layDays", "pending", "upheld", "billedDays", "billable", "callTotal", "worth"}) {
            row(Kind.QUERY, name, no(0, scene.calls), NEVER, NEVER, numbers(scene.calls));
        }
        row(Kind.QUERY, "call", no(0, scene.calls), out(1, 0, 7), NEVER, numbers(scene.calls), edges(0, 7));
        row(Kind.QUERY, "amount", no(0, scene.calls), out(1, 0, 3), NEVER, numbers(scene.calls), edges(0, 3));
    }

    private void invoices() {
        for (String name : new String[] {"net", "open", "isStale", "contested"}) {
            row(Kind.QUERY, name, no(0, scene.invoices), NEVER, NEVER, numbers(scene.invoices));
        }
        for (String name : new String[] {"line", "rebuilt"}) {
            row(Kind.QUERY, name, no(0, scene.invoices), out(1, 0, 3), NEVER, numbers(scene.invoices), edges(0, 3));
        }
        row(Kind.QUERY, "invoice", no(0, scene.invoices), out(1, 0, 5), NEVER, numbers(scene.invoices), edges(0, 5));
        row(Kind.QUERY, "note", no(0, scene.notes), out(1, 0, 3), NEVER, numbers(scene.notes), edges(0, 3));
        row(Kind.QUERY, "staleCount", NEVER, NEVER, NEVER);
        row(Kind.QUERY, "overdue", NEVER, out(0, 0, 3599), NEVER, edges(0, 3599));
        row(Kind.QUERY, "revenue", NEVER, or(out(0, 0, 9), out(1, 0, 3)), NEVER, edges(0, 9), edges(0, 3));
    }

    private void whatWouldBe() {
        row(Kind.QUERY, "quote", no(0, scene.ships), badStay(1), NEVER,
                numbers(scene.ships), FIRST_DAYS, LAST_DAYS, edges(0, 999));
        Test badTo = a -> a[2] < a[1] || a[2] > (long) a[1] + 99 || a[2] > 3599;
        row(Kind.QUERY, "bestDay", no(0, scene.ships), or(out(1, 0, 3599), badTo, out(3, 1, 30), out(4, 0, 999)), NEVER,
                numbers(scene.ships), FIRST_DAYS, BEST_TO, edges(1, 30), edges(0, 999));
    }

    private void changesOfCalls() {
        row(Kind.CHANGE, "addCall", no(0, scene.ships), badStay(1), when(scene.calls == 40),
                numbers(scene.ships), FIRST_DAYS, LAST_DAYS, edges(0, 999));
        row(Kind.CHANGE, "cancel", no(0, scene.calls), NEVER, a -> !scene.canCancel[a[0]], from(-1, scene.calls));
        row(Kind.CHANGE, "setWaste", no(0, scene.calls), out(1, 0, 999), NEVER, numbers(scene.calls), edges(0, 999));
        row(Kind.CHANGE, "setTons", no(0, scene.ships), out(1, 1, 9999), NEVER, numbers(scene.ships), edges(1, 9999));
        row(Kind.CHANGE, "dispute", no(0, scene.calls), a -> !has(scene.lay[a[0]], a[1]),
                a -> scene.cancelled[a[0]] || has(scene.pending[a[0]] | scene.upheld[a[0]], a[1]), someCalls(), DAYS);
        row(Kind.CHANGE, "settle", no(0, scene.calls), NEVER, a -> !has(scene.pending[a[0]], a[1]),
                someCalls(), DAYS, new int[] {0, 1});
    }

    private int[] someCalls() {
        return from(-1, Math.min(scene.calls, 5));
    }

    private void changesOfInvoices() {
        row(Kind.CHANGE, "bill", no(0, scene.calls), NEVER, a -> !scene.canBill[a[0]] || scene.invoices == 60,
                from(-1, scene.calls));
        row(Kind.CHANGE, "billAll", no(0, scene.ships), NEVER, NEVER, numbers(scene.ships));
        row(Kind.CHANGE, "credit", no(0, scene.invoices), out(1, 1, 15),
                a -> (a[1] & ~scene.standing[a[0]]) != 0 || scene.notes == 40, numbers(scene.invoices), from(-2, 33));
        row(Kind.CHANGE, "pay", no(0, scene.ships), out(1, 1, 1000000000), NEVER, numbers(scene.ships), edges(1, 1000000000));
        row(Kind.CHANGE, "advance", NEVER, out(0, 1, 3600), a -> scene.today + a[0] > 99999, edges(1, 3600));
    }

    private void changesOfTheTariff() {
        Test last = when(scene.version == 20);
        row(Kind.CHANGE, "setRate", no(0, scene.bands), out(1, 0, 999), last, numbers(scene.bands), edges(0, 999));
        row(Kind.CHANGE, "setPercent", no(0, scene.rebates), out(1, 0, 100), last, numbers(scene.rebates), edges(0, 100));
        row(Kind.CHANGE, "setLay", NEVER, or(out(0, 0, 30), out(1, 0, 9999)), last, edges(0, 30), edges(0, 9999));
    }

    private void sheets() {
        row(Kind.BUFFER, "writeStatement", no(0, scene.ships), NEVER, NEVER, numbers(scene.ships));
        row(Kind.BUFFER, "writeInvoice", no(0, scene.invoices), NEVER, NEVER, numbers(scene.invoices));
        row(Kind.BUFFER, "writeTariff", no(0, scene.version + 1), NEVER, NEVER, numbers(scene.version + 1));
    }

    /** No method of the face is left out. */
    private void dueAllMethods() {
        Set<String> all = new TreeSet<>();
        for (Method m : PortDues.class.getDeclaredMethods()) {
            if (Modifier.isPublic(m.getModifiers())) {
                all.add(m.getName());
            }
        }
        Check.due("all methods are tested", tested.toString(), all.toString());
    }

    // ---- the calls

    private void row(Kind kind, String name, Test index, Test argument, Test state, int[]... values) {
        tested.add(name);
        Method method = null;
        for (Method m : Dues.class.getDeclaredMethods()) {
            method = m.getName().equals(name) && Modifier.isPublic(m.getModifiers()) ? m : method;
        }
        Dues x = scene.maker.make();
        x.tryOut();
        int made = 0;
        int[] choice = new int[values.length];
        do {
            int[] a = new int[values.length];
            for (int i = 0; i < a.length; i++) {
                a[i] = values[i][choice[i]];
            }
            // In the order of the document: a later test may rely on what an earlier one has looked at.
            String due = index.of(a) ? Check.INDEX : argument.of(a) ? Check.ARGUMENT : state.of(a) ? Check.STATE : "nothing";
            String what = scene.name + ": " + name + Arrays.toString(a);
            if (kind == Kind.QUERY || !due.equals("nothing")) {
                Check.due(what + " throws", thrown(x, method, a), due);
                made++;
            } else {
                allowed(kind, what, method, a);
            }
            if (made == 100) {
                x.endOfTrying();
                Check.due(what + " and calls before it changed something", Check.whole(x), untouched);
                x = scene.maker.make();
                x.tryOut();
                made = 0;
            }
        } while (next(choice, values));
        x.endOfTrying();
        Check.due(scene.name + ": " + name + " changed something", Check.whole(x), untouched);
    }

    private static boolean next(int[] choice, int[][] values) {
        for (int i = 0; i < choice.length; i++) {
            choice[i]++;
            if (choice[i] < values[i].length) {
                return true;
            }
            choice[i] = 0;
        }
        return false;
    }

    /** A call that does not throw; "can be undone (also if it made or changed nothing)". */
    private void allowed(Kind kind, String what, Method method, int[] a) {
        Dues x = scene.maker.make();
        Check.due(what + " throws", thrown(x, method, a), "nothing");
        if (kind == Kind.CHANGE) {
            Check.due(what + ": undoCount", x.undoCount(), Math.min(scene.undos + 1, 6));
            Check.due(what + ": undo", x.undo(), Math.min(scene.undos, 5));
            Check.due(what + " is undone", Check.rows(x), Check.rows(scene.maker.make()));
        }
    }

    private static String thrown(Dues x, Method method, int[] a) {
        Object[] arguments = new Object[a.length];
        for (int i = 0; i < a.length; i++) {
            boolean yesOrNo = method.getParameterTypes()[i] == boolean.class;
            arguments[i] = yesOrNo ? (Object) (a[i] == 1) : (Object) a[i];
        }
        try {
            method.invoke(x, arguments);
        } catch (InvocationTargetException e) {
            return e.getCause().getClass().getSimpleName();
        } catch (IllegalAccessException e) {
            return e.getClass().getSimpleName();
        }
        return "nothing";
    }
}
