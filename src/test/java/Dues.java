import java.util.ArrayList;
import java.util.List;

/**
 * The face of PortDues over objects none of which takes more than 512 calls: "what later calls answer is free".
 * Calls that may change something are noted; when an object is used up, a new one takes the same calls, and
 * the run goes on with it. A run with too many changes for one object is an error of the test.
 */
final class Dues {
    private static final int MAX_CALLS = 512;
    // A new object has some calls left for questions.
    private static final int MAX_CHANGES = 480;

    private interface Step {
        long on(PortDues x);
    }

    /** A call that was made; an object of its own for each, so that one of them can be found again. */
    private static final class Noted {
        final Step step;

        Noted(Step step) {
            this.step = step;
        }
    }

    private final List<Noted> notes = new ArrayList<>();
    private final List<Noted> tried = new ArrayList<>();
    private PortDues object = new PortDues();
    private int calls;
    private boolean trying;
    private Noted lastWrite;

    /** From now on questions and calls that throw are noted, too, so that one that changes something is seen. */
    void tryOut() {
        trying = true;
        tried.clear();
    }

    void endOfTrying() {
        trying = false;
    }

    /** What was tried has changed nothing, as the test has seen: later objects need not take it. */
    void forgetTried() {
        for (Noted call : tried) {
            forget(call);
        }
        tried.clear();
    }

    private void forget(Noted call) {
        for (int i = 0; i < notes.size(); i++) {
            if (notes.get(i) == call) {
                notes.remove(i);
                return;
            }
        }
    }

    private long change(Step step) {
        long answer = make(step);
        if (!trying) {
            notes.add(new Noted(step));
        }
        return answer;
    }

    /** The content of the output buffer is that of the last one: the one before is not needed any more. */
    private long write(Step step) {
        long answer = change(step);
        if (!trying) {
            forget(lastWrite);
            lastWrite = notes.get(notes.size() - 1);
        }
        return answer;
    }

    private long ask(Step step) {
        return make(step);
    }

    private long make(Step step) {
        if (calls >= MAX_CALLS) {
            takeNewObject();
        }
        calls++;
        if (trying) {
            Noted call = new Noted(step);
            notes.add(call);
            tried.add(call);
        }
        return step.on(object);
    }

    private void takeNewObject() {
        if (notes.size() > MAX_CHANGES) {
            throw new AssertionError("a run with " + notes.size() + " changes is too long");
        }
        object = new PortDues();
        for (Noted call : notes) {
            try {
                call.step.on(object);
            } catch (RuntimeException e) {
                // It threw before, too.
                continue;
            }
        }
        calls = notes.size();
    }

    // ---- the face

    public int append(int a, int b, int c, int d, int e) {
        return (int) change(x -> x.append(a, b, c, d, e));
    }

    public void truncate(int length) {
        change(x -> {
            x.truncate(length);
            return 0;
        });
    }

    public int load() {
        return (int) change(x -> x.load());
    }

    public int errorCode() {
        return (int) ask(x -> x.errorCode());
    }

    public int errorPosition() {
        return (int) ask(x -> x.errorPosition());
    }

    public int find() {
        return (int) change(x -> x.find());
    }

    public int count(int what) {
        return (int) ask(x -> x.count(what));
    }

    public int tariff(int what) {
        return (int) ask(x -> x.tariff(what));
    }

    public int band(int band, int what) {
        return (int) ask(x -> x.band(band, what));
    }

    public int rebate(int rebate, int what) {
        return (int) ask(x -> x.rebate(rebate, what));
    }

    public int bandOf(int tons) {
        return (int) ask(x -> x.bandOf(tons));
    }

    public int dues(int tons) {
        return (int) ask(x -> x.dues(tons));
    }

    public int tonsIn(int tons, int band) {
        return (int) ask(x -> x.tonsIn(tons, band));
    }

    public int wasteFee(int waste) {
        return (int) ask(x -> x.wasteFee(waste));
    }

    public int tons(int ship) {
        return (int) ask(x -> x.tons(ship));
    }

    public int calls(int ship, int year) {
        return (int) ask(x -> x.calls(ship, year));
    }

    public int call(int call, int what) {
        return (int) ask(x -> x.call(call, what));
    }

    public int layDays(int call) {
        return (int) ask(x -> x.layDays(call));
    }

    public int pending(int call) {
        return (int) ask(x -> x.pending(call));
    }

    public int upheld(int call) {
        return (int) ask(x -> x.upheld(call));
    }

    public int billedDays(int call) {
        return (int) ask(x -> x.billedDays(call));
    }

    public int billable(int call) {
        return (int) ask(x -> x.billable(call));
    }

    public int amount(int call, int line) {
        return (int) ask(x -> x.amount(call, line));
    }

    public int callTotal(int call) {
        return (int) ask(x -> x.callTotal(call));
    }

    public int invoice(int invoice, int what) {
        return (int) ask(x -> x.invoice(invoice, what));
    }

    public int line(int invoice, int line) {
        return (int) ask(x -> x.line(invoice, line));
    }

    public int net(int invoice) {
        return (int) ask(x -> x.net(invoice));
    }

    public int open(int invoice) {
        return (int) ask(x -> x.open(invoice));
    }

    public int rebuilt(int invoice, int line) {
        return (int) ask(x -> x.rebuilt(invoice, line));
    }

    public boolean isStale(int invoice) {
        return ask(x -> x.isStale(invoice) ? 1 : 0) != 0;
    }

    public int staleCount() {
        return (int) ask(x -> x.staleCount());
    }

    public int contested(int invoice) {
        return (int) ask(x -> x.contested(invoice));
    }

    public int note(int note, int what) {
        return (int) ask(x -> x.note(note, what));
    }

    public long balance(int ship) {
        return ask(x -> x.balance(ship));
    }

    public long paid(int ship) {
        return ask(x -> x.paid(ship));
    }

    public int oldestOpen(int ship) {
        return (int) ask(x -> x.oldestOpen(ship));
    }

    public int overdue(int days) {
        return (int) ask(x -> x.overdue(days));
    }

    public long revenue(int year, int line) {
        return ask(x -> x.revenue(year, line));
    }

    public long rebates(int ship, int year) {
        return ask(x -> x.rebates(ship, year));
    }

    public int quote(int ship, int first, int last, int waste) {
        return (int) ask(x -> x.quote(ship, first, last, waste));
    }

    public int callsToRebate(int ship, int year) {
        return (int) ask(x -> x.callsToRebate(ship, year));
    }

    public int worth(int call) {
        return (int) ask(x -> x.worth(call));
    }

    public int busiestYear(int ship) {
        return (int) ask(x -> x.busiestYear(ship));
    }

    public int addCall(int ship, int first, int last, int waste) {
        return (int) change(x -> x.addCall(ship, first, last, waste));
    }

    public int cancel(int call) {
        return (int) change(x -> x.cancel(call));
    }

    public int setWaste(int call, int waste) {
        return (int) change(x -> x.setWaste(call, waste));
    }

    public int setTons(int ship, int tons) {
        return (int) change(x -> x.setTons(ship, tons));
    }

    public int bill(int call) {
        return (int) change(x -> x.bill(call));
    }

    public int billAll(int ship) {
        return (int) change(x -> x.billAll(ship));
    }

    public int credit(int invoice, int lines) {
        return (int) change(x -> x.credit(invoice, lines));
    }

    public int dispute(int call, int day) {
        return (int) change(x -> x.dispute(call, day));
    }

    public int settle(int call, int day, boolean inFavour) {
        return (int) change(x -> x.settle(call, day, inFavour));
    }

    public long pay(int ship, int amount) {
        return change(x -> x.pay(ship, amount));
    }

    public int advance(int days) {
        return (int) change(x -> x.advance(days));
    }

    public int setRate(int band, int rate) {
        return (int) change(x -> x.setRate(band, rate));
    }

    public int setPercent(int rebate, int percent) {
        return (int) change(x -> x.setPercent(rebate, percent));
    }

    public int setLay(int free, int rate) {
        return (int) change(x -> x.setLay(free, rate));
    }

    public int undo() {
        return (int) change(x -> x.undo());
    }

    public int undoCount() {
        return (int) ask(x -> x.undoCount());
    }

    public int writeStatement(int ship) {
        return (int) write(x -> x.writeStatement(ship));
    }

    public int writeInvoice(int invoice) {
        return (int) write(x -> x.writeInvoice(invoice));
    }

    public int writeTariff(int version) {
        return (int) write(x -> x.writeTariff(version));
    }

    public int bestDay(int ship, int from, int to, int days, int waste) {
        return (int) ask(x -> x.bestDay(ship, from, to, days, waste));
    }

    public int outputByte(int index) {
        return (int) ask(x -> x.outputByte(index));
    }
}
