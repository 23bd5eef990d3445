/**
 * A ledger of port dues: a tariff in versions, ships and their calls, disputed days, invoices that
 * are rebuilt from calls, credit notes, payments and undo. The face checks what it is given; the
 * classes inside may then rely on it. All rows are made once, in the constructors, and used again.
 */
public final class PortDues {
    public static final int NONE = -1;
    public static final int PARSE_ERROR = -4;

    private static final int MAX_INPUT = 800;
    private static final int APPENDED_BYTES = 20;
    // A statement of 60 invoices is the longest output: below 60 * 21 + 25 bytes.
    private static final int MAX_OUTPUT = 1400;
    private static final int MAX_BANDS = 6;
    private static final int MAX_REBATES = 4;
    private static final int MAX_SHIPS = 8;
    private static final int MAX_TEXT_CALLS = 20;
    private static final int MAX_CALLS = 40;
    private static final int MAX_INVOICES = 60;
    private static final int MAX_NOTES = 40;
    private static final int MAX_VERSION = 20;
    private static final int MAX_UNDO = 6;

    private static final int MAX_NAME = 6;
    private static final int MAX_TONS = 9999;
    private static final int MAX_RATE = 999;
    private static final int MAX_PERCENT = 100;
    private static final int MAX_WASTE = 999;
    private static final int MAX_WASTE_FIXED = 9999;
    private static final int MAX_WASTE_PRICE = 999;
    private static final int MAX_CALL_DAYS = 30;
    private static final int MAX_LAY_RATE = 9999;
    private static final int MAX_REBATE_FROM = 99;
    private static final int DAYS_PER_YEAR = 360;
    private static final int YEARS = 10;
    private static final int MAX_FIRST_DAY = 3599;
    private static final int MAX_BEST_DAY_SPAN = 99;
    private static final int MAX_PAYMENT = 1000000000;
    private static final int MAX_ADVANCE = 3600;
    private static final int MAX_TODAY = 99999;

    private static final int DUES = 0;
    private static final int REBATE = 1;
    private static final int WASTE = 2;
    private static final int LAY = 3;
    private static final int LINES = 4;
    private static final int CALL_LINES = 7;
    private static final int LAY_LINE = 8;

    private static final int MISPLACED = 1;
    private static final int OUT_OF_RANGE = 2;
    private static final int CLASH = 3;
    private static final int TOO_MANY = 4;

    private final Bytes input;
    private final Bytes output;
    private final Ledger ledger;
    private final Ledger draft;
    private final Parser parser;
    private final History history;
    private final Accounts accounts;
    private final Reports reports;

    public PortDues() {
        input = new Bytes(MAX_INPUT);
        output = new Bytes(MAX_OUTPUT);
        ledger = new Ledger();
        draft = new Ledger();
        parser = new Parser(input, draft);
        history = new History();
        accounts = new Accounts(ledger);
        reports = new Reports(ledger, accounts, output);
    }

    // ---- the input buffer and its text

    public int append(int a, int b, int c, int d, int e) throws IllegalStateException {
        requireState(input.length + APPENDED_BYTES <= MAX_INPUT);
        input.putInt(a);
        input.putInt(b);
        input.putInt(c);
        input.putInt(d);
        input.putInt(e);
        return input.length;
    }

    public void truncate(int length) throws IllegalArgumentException {
        requireRange(length, 0, input.length);
        input.length = length;
    }

    public int load() {
        boolean parsed = parser.parseText();
        input.length = 0;
        if (!parsed) {
            return PARSE_ERROR;
        }
        history.save(ledger);
        ledger.copyFrom(draft);
        return ledger.shipCount;
    }

    public int errorCode() {
        return parser.errorCode;
    }

    public int errorPosition() {
        return parser.errorPosition;
    }

    public int find() {
        int ship = ledger.shipNamed(input, 0, input.length);
        input.length = 0;
        return ship;
    }

    // ---- the tariff

    public int count(int what) throws IllegalArgumentException {
        requireRange(what, 0, 8);
        switch (what) {
            case 0: return ledger.shipCount;
            case 1: return ledger.callCount;
            case 2: return ledger.invoiceCount;
            case 3: return ledger.noteCount;
            case 4: return ledger.version;
            case 5: return ledger.today;
            case 6: return ledger.present().bandCount;
            case 7: return ledger.present().rebateCount;
            default: return ledger.pendingDays();
        }
    }

    public int tariff(int what) throws IllegalArgumentException {
        requireRange(what, 0, 5);
        Tariff present = ledger.present();
        switch (what) {
            case 0: return present.slab ? 1 : 0;
            case 1: return present.wasteFixed;
            case 2: return present.wasteFree;
            case 3: return present.wastePrice;
            case 4: return present.layFree;
            default: return present.layRate;
        }
    }

    public int band(int band, int what) throws IndexOutOfBoundsException, IllegalArgumentException {
        Tariff present = ledger.present();
        requireIndex(band, present.bandCount);
        requireRange(what, 0, 1);
        return what == 0 ? present.bandFrom[band] : present.bandRate[band];
    }

    public int rebate(int rebate, int what) throws IndexOutOfBoundsException, IllegalArgumentException {
        Tariff present = ledger.present();
        requireIndex(rebate, present.rebateCount);
        requireRange(what, 0, 1);
        return what == 0 ? present.rebateFrom[rebate] : present.rebatePercent[rebate];
    }

    public int bandOf(int tons) throws IllegalArgumentException {
        requireRange(tons, 0, MAX_TONS);
        return ledger.present().bandWith(tons);
    }

    public int dues(int tons) throws IllegalArgumentException {
        requireRange(tons, 0, MAX_TONS);
        return ledger.present().duesFor(tons);
    }

    public int tonsIn(int tons, int band) throws IndexOutOfBoundsException, IllegalArgumentException {
        requireIndex(band, ledger.present().bandCount);
        requireRange(tons, 0, MAX_TONS);
        return ledger.present().tonsWithin(tons, band);
    }

    public int wasteFee(int waste) throws IllegalArgumentException {
        requireRange(waste, 0, MAX_WASTE);
        return ledger.present().wasteFeeFor(waste);
    }

    // ---- ships and calls

    public int tons(int ship) throws IndexOutOfBoundsException {
        requireShip(ship);
        return ledger.ships[ship].tons;
    }

    public int calls(int ship, int year) throws IndexOutOfBoundsException, IllegalArgumentException {
        requireShip(ship);
        requireRange(year, 0, YEARS - 1);
        return ledger.callsInYear(ship, year);
    }

    public int call(int call, int what) throws IndexOutOfBoundsException, IllegalArgumentException {
        requireCall(call);
        requireRange(what, 0, 7);
        Call row = ledger.calls[call];
        switch (what) {
            case 0: return row.ship;
            case 1: return row.first;
            case 2: return row.last;
            case 3: return row.waste;
            case 4: return row.cancelled ? 1 : 0;
            case 5: return ledger.rankOf(call);
            case 6: return ledger.present().percentAt(ledger.rankOf(call));
            default: return accounts.billedLinesOf(call);
        }
    }

    public int layDays(int call) throws IndexOutOfBoundsException {
        requireCall(call);
        return ledger.layDaysOf(call);
    }

    public int pending(int call) throws IndexOutOfBoundsException {
        requireCall(call);
        return ledger.calls[call].pending;
    }

    public int upheld(int call) throws IndexOutOfBoundsException {
        requireCall(call);
        return ledger.calls[call].upheld;
    }

    public int billedDays(int call) throws IndexOutOfBoundsException {
        requireCall(call);
        return accounts.billedDaysOf(call);
    }

    public int billable(int call) throws IndexOutOfBoundsException {
        requireCall(call);
        return accounts.billableDaysOf(call);
    }

    public int amount(int call, int line) throws IndexOutOfBoundsException, IllegalArgumentException {
        requireCall(call);
        requireLine(line);
        return ledger.lineAtRank(call, line, ledger.present(), ledger.rankOf(call));
    }

    public int callTotal(int call) throws IndexOutOfBoundsException {
        requireCall(call);
        if (ledger.calls[call].cancelled) {
            return 0;
        }
        return ledger.totalAtRank(call, ledger.rankOf(call));
    }

    // ---- invoices, credit notes and payments

    public int invoice(int invoice, int what) throws IndexOutOfBoundsException, IllegalArgumentException {
        requireInvoice(invoice);
        requireRange(what, 0, 5);
        Invoice row = ledger.invoices[invoice];
        switch (what) {
            case 0: return row.call;
            case 1: return row.date;
            case 2: return row.version;
            case 3: return row.lines;
            case 4: return row.credited;
            default: return row.days;
        }
    }

    public int line(int invoice, int line) throws IndexOutOfBoundsException, IllegalArgumentException {
        requireInvoice(invoice);
        requireLine(line);
        return ledger.invoices[invoice].amounts[line];
    }

    public int net(int invoice) throws IndexOutOfBoundsException {
        requireInvoice(invoice);
        return ledger.invoices[invoice].netAmount();
    }

    public int open(int invoice) throws IndexOutOfBoundsException {
        requireInvoice(invoice);
        return accounts.openAmount(invoice);
    }

    public int rebuilt(int invoice, int line) throws IndexOutOfBoundsException, IllegalArgumentException {
        requireInvoice(invoice);
        requireLine(line);
        return accounts.rebuiltLine(ledger.invoices[invoice], line);
    }

    public boolean isStale(int invoice) throws IndexOutOfBoundsException {
        requireInvoice(invoice);
        return accounts.differsFromRebuilt(invoice);
    }

    public int staleCount() {
        int stale = 0;
        for (int i = 0; i < ledger.invoiceCount; i++) {
            if (accounts.differsFromRebuilt(i)) {
                stale++;
            }
        }
        return stale;
    }

    public int contested(int invoice) throws IndexOutOfBoundsException {
        requireInvoice(invoice);
        Invoice row = ledger.invoices[invoice];
        if (!row.stands(LAY)) {
            return 0;
        }
        return Integer.bitCount(row.days & ledger.calls[row.call].contestedDays());
    }

    public int note(int note, int what) throws IndexOutOfBoundsException, IllegalArgumentException {
        requireIndex(note, ledger.noteCount);
        requireRange(what, 0, 3);
        Note row = ledger.notes[note];
        switch (what) {
            case 0: return row.invoice;
            case 1: return row.lines;
            case 2: return row.date;
            default: return row.amount;
        }
    }

    public long balance(int ship) throws IndexOutOfBoundsException {
        requireShip(ship);
        return accounts.balanceOf(ship);
    }

    public long paid(int ship) throws IndexOutOfBoundsException {
        requireShip(ship);
        return ledger.ships[ship].paid;
    }

    public int oldestOpen(int ship) throws IndexOutOfBoundsException {
        requireShip(ship);
        for (int i = 0; i < ledger.invoiceCount; i++) {
            if (accounts.shipOf(i) == ship && accounts.openAmount(i) > 0) {
                return i;
            }
        }
        return NONE;
    }

    public int overdue(int days) throws IllegalArgumentException {
        requireRange(days, 0, MAX_FIRST_DAY);
        int late = 0;
        for (int i = 0; i < ledger.invoiceCount; i++) {
            if (ledger.today - ledger.invoices[i].date >= days && accounts.openAmount(i) > 0) {
                late++;
            }
        }
        return late;
    }

    public long revenue(int year, int line) throws IllegalArgumentException {
        requireRange(year, 0, YEARS - 1);
        requireLine(line);
        long sum = 0;
        for (int i = 0; i < ledger.invoiceCount; i++) {
            Invoice row = ledger.invoices[i];
            if (row.stands(line) && ledger.calls[row.call].year() == year) {
                sum += row.amounts[line];
            }
        }
        return sum;
    }

    public long rebates(int ship, int year) throws IndexOutOfBoundsException, IllegalArgumentException {
        requireShip(ship);
        requireRange(year, 0, YEARS - 1);
        long sum = 0;
        for (int i = 0; i < ledger.callCount; i++) {
            Call row = ledger.calls[i];
            if (row.ship == ship && row.year() == year) {
                sum += ledger.lineAtRank(i, REBATE, ledger.present(), ledger.rankOf(i));
            }
        }
        return sum;
    }

    // ---- what would be

    public int quote(int ship, int first, int last, int waste)
            throws IndexOutOfBoundsException, IllegalArgumentException {
        requireShip(ship);
        requireStay(first, last, waste);
        Tariff present = ledger.present();
        int tons = ledger.ships[ship].tons;
        int lay = Integer.bitCount(present.laySet(last - first + 1));
        // A further call has a number above all others, so it stands behind calls of the same day.
        int rank = 1 + ledger.callsBefore(ship, first, MAX_CALLS);
        return present.duesFor(tons) + present.rebateFor(tons, rank)
                + present.wasteFeeFor(waste) + present.layRate * lay;
    }

    public int callsToRebate(int ship, int year) throws IndexOutOfBoundsException, IllegalArgumentException {
        requireShip(ship);
        requireRange(year, 0, YEARS - 1);
        Tariff present = ledger.present();
        int rank = ledger.callsInYear(ship, year);
        int percent = present.percentAt(rank);
        for (int more = 1; more <= MAX_REBATE_FROM; more++) {
            if (present.percentAt(rank + more) > percent) {
                return more;
            }
        }
        return NONE;
    }

    public int worth(int call) throws IndexOutOfBoundsException {
        requireCall(call);
        Call row = ledger.calls[call];
        if (row.cancelled) {
            return 0;
        }
        // All calls of a ship have the same dues and the ranks of a year are 1 to n without a gap,
        // so that the rebate of the rank n is the one that would go, whichever call is cancelled.
        return ledger.totalAtRank(call, ledger.callsInYear(row.ship, row.year()));
    }

    public int busiestYear(int ship) throws IndexOutOfBoundsException {
        requireShip(ship);
        int busiest = 0;
        for (int year = 1; year < YEARS; year++) {
            if (ledger.callsInYear(ship, year) > ledger.callsInYear(ship, busiest)) {
                busiest = year;
            }
        }
        return busiest;
    }

    public int bestDay(int ship, int from, int to, int days, int waste)
            throws IndexOutOfBoundsException, IllegalArgumentException {
        requireShip(ship);
        requireRange(from, 0, MAX_FIRST_DAY);
        requireRange(to, from, Math.min(from + MAX_BEST_DAY_SPAN, MAX_FIRST_DAY));
        requireRange(days, 1, MAX_CALL_DAYS);
        requireRange(waste, 0, MAX_WASTE);
        // As in worth(): a further call adds the rebate of the rank behind the last one of its year,
        // and its other lines do not depend on the day.
        int best = from;
        int lowest = furtherRebate(ship, from);
        for (int day = from + 1; day <= to; day++) {
            int rebate = furtherRebate(ship, day);
            if (rebate < lowest) {
                best = day;
                lowest = rebate;
            }
        }
        return best;
    }

    private int furtherRebate(int ship, int day) {
        int rank = ledger.callsInYear(ship, day / DAYS_PER_YEAR) + 1;
        return ledger.present().rebateFor(ledger.ships[ship].tons, rank);
    }

    // ---- changes

    public int addCall(int ship, int first, int last, int waste)
            throws IndexOutOfBoundsException, IllegalArgumentException, IllegalStateException {
        requireShip(ship);
        requireStay(first, last, waste);
        requireState(ledger.callCount < MAX_CALLS);
        history.save(ledger);
        return ledger.newCall(ship, first, last, waste);
    }

    public int cancel(int call) throws IndexOutOfBoundsException, IllegalStateException {
        requireCall(call);
        Call row = ledger.calls[call];
        requireState(!row.cancelled && accounts.billedLinesOf(call) == 0 && accounts.billedDaysOf(call) == 0);
        history.save(ledger);
        row.cancelled = true;
        return ledger.callsLeft(row.ship);
    }

    public int setWaste(int call, int waste) throws IndexOutOfBoundsException, IllegalArgumentException {
        requireCall(call);
        requireRange(waste, 0, MAX_WASTE);
        history.save(ledger);
        Call row = ledger.calls[call];
        int previous = row.waste;
        row.waste = waste;
        return previous;
    }

    public int setTons(int ship, int tons) throws IndexOutOfBoundsException, IllegalArgumentException {
        requireShip(ship);
        requireRange(tons, 1, MAX_TONS);
        history.save(ledger);
        Ship row = ledger.ships[ship];
        int previous = row.tons;
        row.tons = tons;
        return previous;
    }

    public int bill(int call) throws IndexOutOfBoundsException, IllegalStateException {
        requireCall(call);
        requireState(accounts.canBill(call));
        history.save(ledger);
        return accounts.newInvoice(call);
    }

    public int billAll(int ship) throws IndexOutOfBoundsException {
        requireShip(ship);
        history.save(ledger);
        int made = 0;
        for (int i = 0; i < ledger.callCount; i++) {
            if (ledger.calls[i].ship == ship && accounts.canBill(i)) {
                accounts.newInvoice(i);
                made++;
            }
        }
        return made;
    }

    public int credit(int invoice, int lines)
            throws IndexOutOfBoundsException, IllegalArgumentException, IllegalStateException {
        requireInvoice(invoice);
        requireRange(lines, 1, (1 << LINES) - 1);
        requireState((lines & ~ledger.invoices[invoice].standing()) == 0 && ledger.noteCount < MAX_NOTES);
        history.save(ledger);
        return accounts.newNote(invoice, lines);
    }

    public int dispute(int call, int day)
            throws IndexOutOfBoundsException, IllegalArgumentException, IllegalStateException {
        requireCall(call);
        requireRange(day, 0, MAX_CALL_DAYS - 1);
        requireArgument(contains(ledger.layDaysOf(call), day));
        Call row = ledger.calls[call];
        requireState(!row.cancelled && !contains(row.contestedDays(), day));
        history.save(ledger);
        row.pending |= 1 << day;
        return Integer.bitCount(row.pending);
    }

    public int settle(int call, int day, boolean inFavour) throws IndexOutOfBoundsException, IllegalStateException {
        requireCall(call);
        Call row = ledger.calls[call];
        requireState(day >= 0 && day < MAX_CALL_DAYS && contains(row.pending, day));
        history.save(ledger);
        row.pending &= ~(1 << day);
        if (inFavour) {
            row.upheld |= 1 << day;
        }
        return Integer.bitCount(row.pending);
    }

    public long pay(int ship, int amount) throws IndexOutOfBoundsException, IllegalArgumentException {
        requireShip(ship);
        requireRange(amount, 1, MAX_PAYMENT);
        history.save(ledger);
        Ship row = ledger.ships[ship];
        row.paid += amount;
        return row.paid;
    }

    public int advance(int days) throws IllegalArgumentException, IllegalStateException {
        requireRange(days, 1, MAX_ADVANCE);
        requireState(ledger.today + days <= MAX_TODAY);
        history.save(ledger);
        ledger.today += days;
        return ledger.today;
    }

    public int setRate(int band, int rate)
            throws IndexOutOfBoundsException, IllegalArgumentException, IllegalStateException {
        requireIndex(band, ledger.present().bandCount);
        requireRange(rate, 0, MAX_RATE);
        requireState(ledger.version < MAX_VERSION);
        history.save(ledger);
        ledger.newVersion().bandRate[band] = rate;
        return ledger.version;
    }

    public int setPercent(int rebate, int percent)
            throws IndexOutOfBoundsException, IllegalArgumentException, IllegalStateException {
        requireIndex(rebate, ledger.present().rebateCount);
        requireRange(percent, 0, MAX_PERCENT);
        requireState(ledger.version < MAX_VERSION);
        history.save(ledger);
        ledger.newVersion().rebatePercent[rebate] = percent;
        return ledger.version;
    }

    public int setLay(int free, int rate) throws IllegalArgumentException, IllegalStateException {
        requireRange(free, 0, MAX_CALL_DAYS);
        requireRange(rate, 0, MAX_LAY_RATE);
        requireState(ledger.version < MAX_VERSION);
        history.save(ledger);
        Tariff changed = ledger.newVersion();
        changed.layFree = free;
        changed.layRate = rate;
        return ledger.version;
    }

    public int undo() throws IllegalStateException {
        requireState(history.count > 0);
        history.takeBack(ledger);
        return history.count;
    }

    public int undoCount() {
        return history.count;
    }

    // ---- the output buffer

    public int writeStatement(int ship) throws IndexOutOfBoundsException {
        requireShip(ship);
        reports.statement(ship);
        return output.length;
    }

    public int writeInvoice(int invoice) throws IndexOutOfBoundsException {
        requireInvoice(invoice);
        reports.invoiceSheet(invoice);
        return output.length;
    }

    public int writeTariff(int version) throws IndexOutOfBoundsException {
        requireIndex(version, ledger.version + 1);
        reports.tariffSheet(version);
        return output.length;
    }

    public int outputByte(int index) throws IndexOutOfBoundsException {
        requireIndex(index, output.length);
        return output.byteAt(index);
    }

    // ---- what the face refuses

    private void requireShip(int ship) {
        requireIndex(ship, ledger.shipCount);
    }

    private void requireCall(int call) {
        requireIndex(call, ledger.callCount);
    }

    private void requireInvoice(int invoice) {
        requireIndex(invoice, ledger.invoiceCount);
    }

    private static void requireLine(int line) {
        requireRange(line, 0, LINES - 1);
    }

    private static void requireStay(int first, int last, int waste) {
        requireRange(first, 0, MAX_FIRST_DAY);
        requireRange(last, first, first + MAX_CALL_DAYS - 1);
        requireRange(waste, 0, MAX_WASTE);
    }

    private static void requireIndex(int index, int count) {
        if (index < 0 || index >= count) {
            throw new IndexOutOfBoundsException("there is no such number");
        }
    }

    private static void requireRange(int value, int lowest, int highest) {
        requireArgument(value >= lowest && value <= highest);
    }

    private static void requireArgument(boolean allowed) {
        if (!allowed) {
            throw new IllegalArgumentException("a value is out of range");
        }
    }

    private static void requireState(boolean possible) {
        if (!possible) {
            throw new IllegalStateException("this is not possible now");
        }
    }

    // ---- sets

    private static boolean contains(int set, int number) {
        return (set >> number & 1) != 0;
    }

    private static int setBelow(int number) {
        return (1 << number) - 1;
    }

    /** A buffer of bytes with a fixed room. */
    private static final class Bytes {
        // As many as a long can have.
        private static final int MAX_DIGITS = 19;

        final byte[] data;
        final byte[] digits = new byte[MAX_DIGITS];
        int length;

        Bytes(int room) {
            data = new byte[Math.max(room, 0)];
        }

        int byteAt(int index) {
            return index >= 0 && index < length ? data[index] : 0;
        }

        boolean isAt(int from, int to, String text) {
            if (from < 0 || to > length || to - from != text.length()) {
                return false;
            }
            for (int i = 0; i < text.length(); i++) {
                if (data[from + i] != text.charAt(i)) {
                    return false;
                }
            }
            return true;
        }

        void put(int value) {
            if (length < data.length) {
                data[length] = (byte) value;
                length++;
            }
        }

        void putInt(int value) {
            put(value >>> 24);
            put(value >>> 16);
            put(value >>> 8);
            put(value);
        }

        void putText(String text) {
            for (int i = 0; i < text.length(); i++) {
                put(text.charAt(i));
            }
        }

        void putNumber(long number) {
            if (number < 0) {
                put('-');
            }
            long rest = number < 0 ? -number : number;
            int count = 0;
            do {
                digits[count] = (byte) ('0' + rest % 10);
                rest /= 10;
                count++;
            } while (rest > 0 && count < MAX_DIGITS);
            for (int i = count - 1; i >= 0; i--) {
                put(digits[i]);
            }
        }
    }

    /** A version of the tariff, whole, so that an invoice can be rebuilt by the version that it has. */
    private static final class Tariff {
        final int[] bandFrom = new int[MAX_BANDS];
        final int[] bandRate = new int[MAX_BANDS];
        final int[] rebateFrom = new int[MAX_REBATES];
        final int[] rebatePercent = new int[MAX_REBATES];
        int bandCount;
        int rebateCount;
        boolean slab;
        int wasteFixed;
        int wasteFree;
        int wastePrice;
        int layFree = MAX_CALL_DAYS;
        int layRate;

        void clear() {
            bandCount = 0;
            rebateCount = 0;
            slab = false;
            wasteFixed = 0;
            wasteFree = 0;
            wastePrice = 0;
            layFree = MAX_CALL_DAYS;
            layRate = 0;
        }

        void copyFrom(Tariff other) {
            System.arraycopy(other.bandFrom, 0, bandFrom, 0, MAX_BANDS);
            System.arraycopy(other.bandRate, 0, bandRate, 0, MAX_BANDS);
            System.arraycopy(other.rebateFrom, 0, rebateFrom, 0, MAX_REBATES);
            System.arraycopy(other.rebatePercent, 0, rebatePercent, 0, MAX_REBATES);
            bandCount = other.bandCount;
            rebateCount = other.rebateCount;
            slab = other.slab;
            wasteFixed = other.wasteFixed;
            wasteFree = other.wasteFree;
            wastePrice = other.wastePrice;
            layFree = other.layFree;
            layRate = other.layRate;
        }

        int bandWith(int tons) {
            for (int band = bandCount - 1; band >= 0; band--) {
                if (bandFrom[band] <= tons) {
                    return band;
                }
            }
            return NONE;
        }

        int tonsWithin(int tons, int band) {
            int end = band + 1 < bandCount ? Math.min(tons, bandFrom[band + 1]) : tons;
            return Math.max(end - bandFrom[band], 0);
        }

        int duesFor(int tons) {
            int sum = 0;
            int rest = tons;
            for (int band = bandCount - 1; band >= 0; band--) {
                if (bandFrom[band] <= tons) {
                    if (slab) {
                        return bandRate[band] * tons;
                    }
                    sum += bandRate[band] * (rest - bandFrom[band]);
                    rest = bandFrom[band];
                }
            }
            return sum;
        }

        int percentAt(int rank) {
            for (int rebate = rebateCount - 1; rebate >= 0; rebate--) {
                if (rebateFrom[rebate] <= rank) {
                    return rebatePercent[rebate];
                }
            }
            return 0;
        }

        int rebateFor(int tons, int rank) {
            return -(duesFor(tons) * percentAt(rank) / 100);
        }

        int wasteFeeFor(int waste) {
            return wasteFixed + wastePrice * Math.max(waste - wasteFree, 0);
        }

        int laySet(int days) {
            return setBelow(days) & ~setBelow(layFree);
        }
    }

    private static final class Ship {
        // Bytes in the row, not a String, so that a load() makes no objects.
        final byte[] name = new byte[MAX_NAME];
        int nameLength;
        int tons;
        long paid;

        void copyFrom(Ship other) {
            System.arraycopy(other.name, 0, name, 0, MAX_NAME);
            nameLength = other.nameLength;
            tons = other.tons;
            paid = other.paid;
        }

        void takeName(Bytes text, int from, int to) {
            nameLength = Math.min(to - from, MAX_NAME);
            for (int i = 0; i < nameLength; i++) {
                name[i] = (byte) text.byteAt(from + i);
            }
        }

        boolean isNamed(Bytes text, int from, int to) {
            if (to - from != nameLength) {
                return false;
            }
            for (int i = 0; i < nameLength; i++) {
                if (name[i] != text.byteAt(from + i)) {
                    return false;
                }
            }
            return true;
        }
    }

    private static final class Call {
        int ship;
        int first;
        int last;
        int waste;
        boolean cancelled;
        int pending;
        int upheld;

        void copyFrom(Call other) {
            ship = other.ship;
            first = other.first;
            last = other.last;
            waste = other.waste;
            cancelled = other.cancelled;
            pending = other.pending;
            upheld = other.upheld;
        }

        int year() {
            return first / DAYS_PER_YEAR;
        }

        int days() {
            return last - first + 1;
        }

        int contestedDays() {
            return pending | upheld;
        }
    }

    private static final class Invoice {
        final int[] amounts = new int[LINES];
        int call;
        int date;
        int version;
        int lines;
        int credited;
        int days;

        void copyFrom(Invoice other) {
            System.arraycopy(other.amounts, 0, amounts, 0, LINES);
            call = other.call;
            date = other.date;
            version = other.version;
            lines = other.lines;
            credited = other.credited;
            days = other.days;
        }

        int standing() {
            return lines & ~credited;
        }

        boolean stands(int line) {
            return contains(standing(), line);
        }

        int netAmount() {
            return sumOf(standing());
        }

        int sumOf(int set) {
            int sum = 0;
            for (int line = 0; line < LINES; line++) {
                if (contains(set, line)) {
                    sum += amounts[line];
                }
            }
            return sum;
        }
    }

    private static final class Note {
        int invoice;
        int lines;
        int date;
        int amount;

        void copyFrom(Note other) {
            invoice = other.invoice;
            lines = other.lines;
            date = other.date;
            amount = other.amount;
        }
    }

    /** All that undo() restores. Rows from a count on are not in use and may hold anything. */
    private static final class Ledger {
        final Ship[] ships = new Ship[MAX_SHIPS];
        final Call[] calls = new Call[MAX_CALLS];
        final Invoice[] invoices = new Invoice[MAX_INVOICES];
        final Note[] notes = new Note[MAX_NOTES];
        final Tariff[] versions = new Tariff[MAX_VERSION + 1];
        int shipCount;
        int callCount;
        int invoiceCount;
        int noteCount;
        int version;
        int today;

        Ledger() {
            for (int i = 0; i < MAX_SHIPS; i++) {
                ships[i] = new Ship();
            }
            for (int i = 0; i < MAX_CALLS; i++) {
                calls[i] = new Call();
            }
            for (int i = 0; i < MAX_INVOICES; i++) {
                invoices[i] = new Invoice();
            }
            for (int i = 0; i < MAX_NOTES; i++) {
                notes[i] = new Note();
            }
            for (int i = 0; i <= MAX_VERSION; i++) {
                versions[i] = new Tariff();
            }
        }

        void clear() {
            shipCount = 0;
            callCount = 0;
            invoiceCount = 0;
            noteCount = 0;
            version = 0;
            today = 0;
            versions[0].clear();
        }

        void copyFrom(Ledger other) {
            shipCount = other.shipCount;
            callCount = other.callCount;
            invoiceCount = other.invoiceCount;
            noteCount = other.noteCount;
            version = other.version;
            today = other.today;
            for (int i = 0; i < shipCount; i++) {
                ships[i].copyFrom(other.ships[i]);
            }
            for (int i = 0; i < callCount; i++) {
                calls[i].copyFrom(other.calls[i]);
            }
            for (int i = 0; i < invoiceCount; i++) {
                invoices[i].copyFrom(other.invoices[i]);
            }
            for (int i = 0; i < noteCount; i++) {
                notes[i].copyFrom(other.notes[i]);
            }
            for (int i = 0; i <= version; i++) {
                versions[i].copyFrom(other.versions[i]);
            }
        }

        Tariff present() {
            return versions[version];
        }

        /** Makes the next version, the same as the present one; the caller has looked for room. */
        Tariff newVersion() {
            Tariff before = present();
            if (version < MAX_VERSION) {
                version++;
            }
            present().copyFrom(before);
            return present();
        }

        int newShip(Bytes text, int nameFrom, int nameTo, int tons) {
            Ship ship = ships[shipCount];
            ship.takeName(text, nameFrom, nameTo);
            ship.tons = tons;
            ship.paid = 0;
            return shipCount++;
        }

        int newCall(int ship, int first, int last, int waste) {
            Call call = calls[callCount];
            call.ship = ship;
            call.first = first;
            call.last = last;
            call.waste = waste;
            call.cancelled = false;
            call.pending = 0;
            call.upheld = 0;
            return callCount++;
        }

        int shipNamed(Bytes text, int from, int to) {
            for (int i = 0; i < shipCount; i++) {
                if (ships[i].isNamed(text, from, to)) {
                    return i;
                }
            }
            return NONE;
        }

        int pendingDays() {
            int sum = 0;
            for (int i = 0; i < callCount; i++) {
                sum += Integer.bitCount(calls[i].pending);
            }
            return sum;
        }

        int callsLeft(int ship) {
            int left = 0;
            for (int i = 0; i < callCount; i++) {
                if (calls[i].ship == ship && !calls[i].cancelled) {
                    left++;
                }
            }
            return left;
        }

        int callsInYear(int ship, int year) {
            int lastDay = year * DAYS_PER_YEAR + DAYS_PER_YEAR - 1;
            return callsBefore(ship, lastDay, MAX_CALLS);
        }

        /** How many calls that count for the rank of a call of that ship, first day and number lie before it. */
        int callsBefore(int ship, int day, int number) {
            int yearStart = day / DAYS_PER_YEAR * DAYS_PER_YEAR;
            int sum = 0;
            for (int i = 0; i < callCount; i++) {
                Call other = calls[i];
                boolean before = other.first < day || other.first == day && i < number;
                if (other.ship == ship && !other.cancelled && before && other.first >= yearStart) {
                    sum++;
                }
            }
            return sum;
        }

        int rankOf(int number) {
            Call call = calls[number];
            return call.cancelled ? 0 : 1 + callsBefore(call.ship, call.first, number);
        }

        int layDaysOf(int number) {
            return present().laySet(calls[number].days());
        }

        /** A line of a call, by a version, as if nothing of the call was billed. */
        int lineAtRank(int number, int line, Tariff tariff, int rank) {
            Call call = calls[number];
            int tons = ships[call.ship].tons;
            switch (line) {
                case DUES: return tariff.duesFor(tons);
                case REBATE: return tariff.rebateFor(tons, rank);
                case WASTE: return tariff.wasteFeeFor(call.waste);
                default: return tariff.layRate * Integer.bitCount(tariff.laySet(call.days()) & ~call.contestedDays());
            }
        }

        int totalAtRank(int number, int rank) {
            int sum = 0;
            for (int line = 0; line < LINES; line++) {
                sum += lineAtRank(number, line, present(), rank);
            }
            return sum;
        }
    }

    /** The ledgers as they were before the latest calls that can be undone, in a ring. */
    private static final class History {
        final Ledger[] kept = new Ledger[MAX_UNDO];
        int count;
        int next;

        History() {
            for (int i = 0; i < MAX_UNDO; i++) {
                kept[i] = new Ledger();
            }
        }

        void save(Ledger ledger) {
            kept[next].copyFrom(ledger);
            next = (next + 1) % MAX_UNDO;
            count = Math.min(count + 1, MAX_UNDO);
        }

        void takeBack(Ledger ledger) {
            next = (next + MAX_UNDO - 1) % MAX_UNDO;
            count--;
            ledger.copyFrom(kept[next]);
        }
    }

    /** What invoices, credit notes and payments make of a ledger. */
    private static final class Accounts {
        final Ledger ledger;

        Accounts(Ledger ledger) {
            this.ledger = ledger;
        }

        int shipOf(int invoice) {
            return ledger.calls[ledger.invoices[invoice].call].ship;
        }

        int billedLinesOf(int call) {
            int set = 0;
            for (int i = 0; i < ledger.invoiceCount; i++) {
                Invoice invoice = ledger.invoices[i];
                if (invoice.call == call) {
                    set |= invoice.standing() & CALL_LINES;
                }
            }
            return set;
        }

        int billedDaysOf(int call) {
            int set = 0;
            for (int i = 0; i < ledger.invoiceCount; i++) {
                Invoice invoice = ledger.invoices[i];
                if (invoice.call == call && invoice.stands(LAY)) {
                    set |= invoice.days;
                }
            }
            return set;
        }

        int billableDaysOf(int call) {
            return ledger.layDaysOf(call) & ~billedDaysOf(call) & ~ledger.calls[call].contestedDays();
        }

        boolean canBill(int call) {
            if (ledger.calls[call].cancelled || ledger.invoiceCount >= MAX_INVOICES) {
                return false;
            }
            return billedLinesOf(call) != CALL_LINES || billableDaysOf(call) != 0;
        }

        int newInvoice(int call) {
            int days = billableDaysOf(call);
            Invoice invoice = ledger.invoices[ledger.invoiceCount];
            invoice.lines = CALL_LINES & ~billedLinesOf(call) | (days != 0 ? LAY_LINE : 0);
            invoice.call = call;
            invoice.date = ledger.today;
            invoice.version = ledger.version;
            invoice.credited = 0;
            invoice.days = days;
            for (int line = 0; line < LINES; line++) {
                invoice.amounts[line] = rebuiltLine(invoice, line);
            }
            return ledger.invoiceCount++;
        }

        int newNote(int number, int lines) {
            Invoice invoice = ledger.invoices[number];
            invoice.credited |= lines;
            Note note = ledger.notes[ledger.noteCount];
            note.invoice = number;
            note.lines = lines;
            note.date = ledger.today;
            note.amount = -invoice.sumOf(lines);
            return ledger.noteCount++;
        }

        int rebuiltLine(Invoice invoice, int line) {
            if (!invoice.stands(line)) {
                return 0;
            }
            Tariff tariff = ledger.versions[invoice.version];
            if (line == LAY) {
                int days = invoice.days & ~ledger.calls[invoice.call].contestedDays();
                return tariff.layRate * Integer.bitCount(days);
            }
            return ledger.lineAtRank(invoice.call, line, tariff, ledger.rankOf(invoice.call));
        }

        boolean differsFromRebuilt(int number) {
            Invoice invoice = ledger.invoices[number];
            for (int line = 0; line < LINES; line++) {
                if (invoice.stands(line) && invoice.amounts[line] != rebuiltLine(invoice, line)) {
                    return true;
                }
            }
            return false;
        }

        long balanceOf(int ship) {
            long sum = -ledger.ships[ship].paid;
            for (int i = 0; i < ledger.invoiceCount; i++) {
                if (shipOf(i) == ship) {
                    sum += ledger.invoices[i].netAmount();
                }
            }
            return sum;
        }

        int openAmount(int number) {
            int net = ledger.invoices[number].netAmount();
            if (net <= 0) {
                return 0;
            }
            long left = fundsOf(shipOf(number)) - claimsBefore(number);
            return (int) Math.max(net - Math.max(left, 0), 0);
        }

        /** What goes to the invoices of a ship: its payments, and what nets below 0 give back. */
        private long fundsOf(int ship) {
            long funds = ledger.ships[ship].paid;
            for (int i = 0; i < ledger.invoiceCount; i++) {
                if (shipOf(i) == ship) {
                    funds += Math.max(-ledger.invoices[i].netAmount(), 0);
                }
            }
            return funds;
        }

        private long claimsBefore(int number) {
            long claims = 0;
            for (int i = 0; i < number; i++) {
                if (shipOf(i) == shipOf(number)) {
                    claims += Math.max(ledger.invoices[i].netAmount(), 0);
                }
            }
            return claims;
        }
    }

    /** The three sheets that go to the output buffer. */
    private static final class Reports {
        final Ledger ledger;
        final Accounts accounts;
        final Bytes out;

        Reports(Ledger ledger, Accounts accounts, Bytes out) {
            this.ledger = ledger;
            this.accounts = accounts;
            this.out = out;
        }

        void statement(int ship) {
            out.length = 0;
            shipName(ledger.ships[ship]);
            out.put('\n');
            for (int i = 0; i < ledger.invoiceCount; i++) {
                if (accounts.shipOf(i) == ship) {
                    out.putNumber(i);
                    wordAndNumber(" ", ledger.invoices[i].netAmount());
                    wordAndNumber(" ", accounts.openAmount(i));
                    out.put('\n');
                }
            }
            out.putNumber(accounts.balanceOf(ship));
            out.put('\n');
        }

        void invoiceSheet(int number) {
            Invoice invoice = ledger.invoices[number];
            out.length = 0;
            wordAndNumber("invoice ", number);
            out.putText(" ship ");
            shipName(ledger.ships[accounts.shipOf(number)]);
            wordAndNumber(" call ", invoice.call);
            wordAndNumber(" date ", invoice.date);
            out.put('\n');
            for (int line = 0; line < LINES; line++) {
                if (contains(invoice.lines, line)) {
                    invoiceLine(invoice, line);
                }
            }
            wordAndNumber("net ", invoice.netAmount());
            wordAndNumber(" open ", accounts.openAmount(number));
            out.put('\n');
        }

        private void invoiceLine(Invoice invoice, int line) {
            wordAndNumber(lineWord(line), invoice.amounts[line]);
            if (line == LAY) {
                invoiceDays(invoice);
            }
            int now = accounts.rebuiltLine(invoice, line);
            if (!invoice.stands(line)) {
                out.putText(" credited");
            } else if (now != invoice.amounts[line]) {
                wordAndNumber(" now ", now);
            }
            out.put('\n');
        }

        private static String lineWord(int line) {
            switch (line) {
                case DUES: return "dues ";
                case REBATE: return "rebate ";
                case WASTE: return "waste ";
                default: return "lay ";
            }
        }

        private void invoiceDays(Invoice invoice) {
            Call call = ledger.calls[invoice.call];
            out.putText(" days");
            for (int day = 0; day < MAX_CALL_DAYS; day++) {
                if (contains(invoice.days, day)) {
                    wordAndNumber(" ", day);
                    if (contains(call.pending, day)) {
                        out.put('?');
                    } else if (contains(call.upheld, day)) {
                        out.put('-');
                    }
                }
            }
        }

        void tariffSheet(int version) {
            Tariff tariff = ledger.versions[version];
            // Version 0 is its own version before: nothing in it counts as changed.
            Tariff before = ledger.versions[Math.max(version - 1, 0)];
            out.length = 0;
            wordAndNumber("version ", version);
            out.putText(tariff.slab ? "\nslab\n" : "\nslices\n");
            for (int i = 0; i < tariff.bandCount; i++) {
                wordAndNumber("band ", tariff.bandFrom[i]);
                wordAndNumber(" rate ", tariff.bandRate[i]);
                endTariffLine(tariff.bandRate[i] != before.bandRate[i]);
            }
            for (int i = 0; i < tariff.rebateCount; i++) {
                wordAndNumber("rebate ", tariff.rebateFrom[i]);
                wordAndNumber(" percent ", tariff.rebatePercent[i]);
                endTariffLine(tariff.rebatePercent[i] != before.rebatePercent[i]);
            }
            wordAndNumber("waste fixed ", tariff.wasteFixed);
            wordAndNumber(" free ", tariff.wasteFree);
            wordAndNumber(" price ", tariff.wastePrice);
            endTariffLine(false);
            wordAndNumber("lay free ", tariff.layFree);
            wordAndNumber(" rate ", tariff.layRate);
            endTariffLine(tariff.layFree != before.layFree || tariff.layRate != before.layRate);
        }

        private void endTariffLine(boolean changed) {
            out.putText(changed ? " changed\n" : "\n");
        }

        private void shipName(Ship ship) {
            for (int i = 0; i < ship.nameLength; i++) {
                out.put(ship.name[i]);
            }
        }

        private void wordAndNumber(String word, long number) {
            out.putText(word);
            out.putNumber(number);
        }
    }

    /** Reads a text, token by token from left to right, into a ledger; stops at the first error. */
    private static final class Parser {
        private static final int END = 0;
        private static final int WORD = 1;
        private static final int NUMBER = 2;
        private static final int SYMBOL = 3;
        // Above all numbers that a statement allows, and far from where an int ends.
        private static final int HUGE = 100000;

        final Bytes text;
        final Ledger target;
        int kind;
        int start;
        int end;
        int value;
        boolean modeSeen;
        boolean wasteSeen;
        boolean laySeen;
        int errorCode;
        int errorPosition = NONE;

        Parser(Bytes text, Ledger target) {
            this.text = text;
            this.target = target;
        }

        boolean parseText() {
            target.clear();
            modeSeen = false;
            wasteSeen = false;
            laySeen = false;
            errorCode = 0;
            errorPosition = NONE;
            end = 0;
            readToken();
            if (kind == END) {
                return fail(MISPLACED);
            }
            for (int i = 0; i < MAX_INPUT && kind != END; i++) {
                if (!statement() || !symbol(';')) {
                    return false;
                }
            }
            return true;
        }

        private boolean statement() {
            if (tokenIs("slices")) {
                return modeStatement(false);
            }
            if (tokenIs("slab")) {
                return modeStatement(true);
            }
            if (tokenIs("band")) {
                return bandStatement(target.present());
            }
            if (tokenIs("rebate")) {
                return rebateStatement(target.present());
            }
            if (tokenIs("waste")) {
                return wasteStatement(target.present());
            }
            if (tokenIs("lay")) {
                return layStatement(target.present());
            }
            if (tokenIs("ship")) {
                return shipStatement();
            }
            if (tokenIs("call")) {
                return callStatement();
            }
            return fail(MISPLACED);
        }

        private boolean modeStatement(boolean slab) {
            if (modeSeen) {
                return fail(CLASH);
            }
            modeSeen = true;
            target.present().slab = slab;
            readToken();
            return true;
        }

        private boolean bandStatement(Tariff tariff) {
            int band = tariff.bandCount;
            if (band >= MAX_BANDS) {
                return fail(TOO_MANY);
            }
            int lowest = band == 0 ? 0 : tariff.bandFrom[band - 1] + 1;
            readToken();
            if (!number(lowest, band == 0 ? 0 : MAX_TONS)) {
                return false;
            }
            tariff.bandFrom[band] = value;
            if (!word("rate") || !number(0, MAX_RATE)) {
                return false;
            }
            tariff.bandRate[band] = value;
            tariff.bandCount++;
            return true;
        }

        private boolean rebateStatement(Tariff tariff) {
            int rebate = tariff.rebateCount;
            if (rebate >= MAX_REBATES) {
                return fail(TOO_MANY);
            }
            int lowest = rebate == 0 ? 2 : tariff.rebateFrom[rebate - 1] + 1;
            readToken();
            if (!number(lowest, MAX_REBATE_FROM)) {
                return false;
            }
            tariff.rebateFrom[rebate] = value;
            if (!word("percent") || !number(0, MAX_PERCENT)) {
                return false;
            }
            tariff.rebatePercent[rebate] = value;
            tariff.rebateCount++;
            return true;
        }

        private boolean wasteStatement(Tariff tariff) {
            if (wasteSeen) {
                return fail(CLASH);
            }
            wasteSeen = true;
            readToken();
            if (!word("fixed") || !number(0, MAX_WASTE_FIXED)) {
                return false;
            }
            tariff.wasteFixed = value;
            if (!word("free") || !number(0, MAX_WASTE)) {
                return false;
            }
            tariff.wasteFree = value;
            if (!word("price") || !number(0, MAX_WASTE_PRICE)) {
                return false;
            }
            tariff.wastePrice = value;
            return true;
        }

        private boolean layStatement(Tariff tariff) {
            if (laySeen) {
                return fail(CLASH);
            }
            laySeen = true;
            readToken();
            if (!word("free") || !number(0, MAX_CALL_DAYS)) {
                return false;
            }
            tariff.layFree = value;
            if (!word("rate") || !number(0, MAX_LAY_RATE)) {
                return false;
            }
            tariff.layRate = value;
            return true;
        }

        private boolean shipStatement() {
            if (target.shipCount >= MAX_SHIPS) {
                return fail(TOO_MANY);
            }
            readToken();
            if (!tokenIsName()) {
                return fail(MISPLACED);
            }
            if (target.shipNamed(text, start, end) != NONE) {
                return fail(CLASH);
            }
            int nameFrom = start;
            int nameTo = end;
            readToken();
            if (!word("tons") || !number(1, MAX_TONS)) {
                return false;
            }
            target.newShip(text, nameFrom, nameTo, value);
            return true;
        }

        private boolean callStatement() {
            if (target.callCount >= MAX_TEXT_CALLS) {
                return fail(TOO_MANY);
            }
            readToken();
            if (!tokenIsName()) {
                return fail(MISPLACED);
            }
            int ship = target.shipNamed(text, start, end);
            if (ship == NONE) {
                return fail(CLASH);
            }
            readToken();
            if (!number(0, MAX_FIRST_DAY)) {
                return false;
            }
            int first = value;
            if (!word("to") || !number(first, first + MAX_CALL_DAYS - 1)) {
                return false;
            }
            int last = value;
            if (!word("waste") || !number(0, MAX_WASTE)) {
                return false;
            }
            target.newCall(ship, first, last, value);
            return true;
        }

        private boolean fail(int code) {
            errorCode = code;
            errorPosition = start;
            return false;
        }

        private boolean word(String wanted) {
            if (!tokenIs(wanted)) {
                return fail(MISPLACED);
            }
            readToken();
            return true;
        }

        private boolean symbol(char wanted) {
            if (kind != SYMBOL || text.byteAt(start) != wanted) {
                return fail(MISPLACED);
            }
            readToken();
            return true;
        }

        private boolean number(int lowest, int highest) {
            if (kind != NUMBER) {
                return fail(MISPLACED);
            }
            value = 0;
            for (int i = start; i < end; i++) {
                value = Math.min(value * 10 + text.byteAt(i) - '0', HUGE);
            }
            if (value < lowest || value > highest) {
                return fail(OUT_OF_RANGE);
            }
            readToken();
            return true;
        }

        private boolean tokenIs(String word) {
            return kind == WORD && text.isAt(start, end, word);
        }

        private boolean tokenIsName() {
            if (kind != WORD || end - start > MAX_NAME) {
                return false;
            }
            boolean keyword = tokenIs("slices") || tokenIs("slab") || tokenIs("band") || tokenIs("rate")
                    || tokenIs("rebate") || tokenIs("percent") || tokenIs("waste") || tokenIs("fixed")
                    || tokenIs("free") || tokenIs("price") || tokenIs("lay") || tokenIs("ship")
                    || tokenIs("tons") || tokenIs("call") || tokenIs("to");
            return !keyword;
        }

        private void readToken() {
            start = end;
            while (start < text.length && kindAt(start) == END) {
                start++;
            }
            kind = kindAt(start);
            end = Math.min(start + 1, text.length);
            if (kind == WORD || kind == NUMBER) {
                while (end < text.length && kindAt(end) == kind) {
                    end++;
                }
            }
        }

        /** The kind of token of the byte there; END for a byte that only separates, and behind the text. */
        private int kindAt(int position) {
            if (position >= text.length) {
                return END;
            }
            int sign = text.byteAt(position);
            if (sign >= 'a' && sign <= 'z') {
                return WORD;
            }
            if (sign >= '0' && sign <= '9') {
                return NUMBER;
            }
            return sign == ' ' || sign == '\n' ? END : SYMBOL;
        }
    }
}
