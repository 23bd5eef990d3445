import java.math.BigInteger;
import java.util.ArrayList;
import java.util.Arrays;
import java.util.List;
import java.util.regex.Matcher;
import java.util.regex.Pattern;

/**
 * The document once more, slow and on other ways than PortDues goes: what would be is tried on a
 * copy, ranks come from sorted lists, dues from single tons. ModelTest compares the two.
 */
final class Model {
    static final class Version {
        List<int[]> bands = new ArrayList<>();
        List<int[]> rebates = new ArrayList<>();
        boolean slab;
        int[] waste = {0, 0, 0};
        int[] lay = {30, 0};

        Version copy() {
            Version c = new Version();
            for (int[] b : bands) {
                c.bands.add(b.clone());
            }
            for (int[] r : rebates) {
                c.rebates.add(r.clone());
            }
            c.slab = slab;
            c.waste = waste.clone();
            c.lay = lay.clone();
            return c;
        }

        int bandOf(int ton) {
            int found = -1;
            for (int i = 0; i < bands.size(); i++) {
                if (ton >= bands.get(i)[0]) {
                    found = i;
                }
            }
            return found;
        }

        int tonsIn(int tons, int band) {
            int n = 0;
            for (int ton = 0; ton < tons; ton++) {
                if (bandOf(ton) == band) {
                    n++;
                }
            }
            return n;
        }

        int dues(int tons) {
            if (bands.isEmpty()) {
                return 0;
            }
            if (slab) {
                return bands.get(bandOf(tons))[1] * tons;
            }
            int sum = 0;
            for (int i = 0; i < bands.size(); i++) {
                sum += bands.get(i)[1] * tonsIn(tons, i);
            }
            return sum;
        }

        int percent(int rank) {
            int percent = 0;
            for (int[] r : rebates) {
                if (r[0] <= rank) {
                    percent = r[1];
                }
            }
            return percent;
        }

        int wasteFee(int amount) {
            return waste[0] + (amount > waste[1] ? waste[2] * (amount - waste[1]) : 0);
        }
    }

    static final class Ship {
        String name;
        int tons;
        long paid;
    }

    static final class Call {
        int ship;
        int first;
        int last;
        int waste;
        boolean cancelled;
        int pending;
        int upheld;
    }

    static final class Invoice {
        int call;
        int date;
        int version;
        int lines;
        int credited;
        int days;
        int[] amounts = new int[4];
    }

    static final class State {
        List<Ship> ships = new ArrayList<>();
        List<Call> calls = new ArrayList<>();
        List<Invoice> invoices = new ArrayList<>();
        List<int[]> notes = new ArrayList<>();
        List<Version> versions = new ArrayList<>(List.of(new Version()));
        int today;

        State copy() {
            State c = new State();
            for (Ship s : ships) {
                Ship t = new Ship();
                t.name = s.name;
                t.tons = s.tons;
                t.paid = s.paid;
                c.ships.add(t);
            }
            for (Call s : calls) {
                Call t = new Call();
                t.ship = s.ship;
                t.first = s.first;
                t.last = s.last;
                t.waste = s.waste;
                t.cancelled = s.cancelled;
                t.pending = s.pending;
                t.upheld = s.upheld;
                c.calls.add(t);
            }
            for (Invoice s : invoices) {
                Invoice t = new Invoice();
                t.call = s.call;
                t.date = s.date;
                t.version = s.version;
                t.lines = s.lines;
                t.credited = s.credited;
                t.days = s.days;
                t.amounts = s.amounts.clone();
                c.invoices.add(t);
            }
            for (int[] n : notes) {
                c.notes.add(n.clone());
            }
            c.versions.clear();
            for (Version v : versions) {
                c.versions.add(v.copy());
            }
            c.today = today;
            return c;
        }
    }

    private State s = new State();
    private final List<State> past = new ArrayList<>();
    private String input = "";
    private String output = "";
    private int errorCode = 0;
    private int errorPosition = -1;

    private static void index(int i, int count) {
        if (i < 0 || i >= count) {
            throw new IndexOutOfBoundsException();
        }
    }

    private static void range(long v, long low, long high) {
        if (v < low || v > high) {
            throw new IllegalArgumentException();
        }
    }

    private static void state(boolean ok) {
        if (!ok) {
            throw new IllegalStateException();
        }
    }

    private void remember() {
        past.add(s.copy());
        if (past.size() > 6) {
            past.remove(0);
        }
    }

    // ---- input

    int append(int... words) {
        state(input.length() + 20 <= 800);
        StringBuilder b = new StringBuilder(input);
        for (int w : words) {
            for (int shift = 24; shift >= 0; shift -= 8) {
                b.append((char) (w >> shift & 255));
            }
        }
        input = b.toString();
        return input.length();
    }

    void truncate(int length) {
        range(length, 0, input.length());
        input = input.substring(0, length);
    }

    int find() {
        String name = input;
        input = "";
        for (int i = 0; i < s.ships.size(); i++) {
            if (s.ships.get(i).name.equals(name)) {
                return i;
            }
        }
        return -1;
    }

    private static final class Bad extends Exception {
        private static final long serialVersionUID = 1;
        final int code;
        final int position;

        Bad(int code, int position) {
            this.code = code;
            this.position = position;
        }
    }

    private static final List<String> KEYWORDS = Arrays.asList("slices", "slab", "band", "rate", "rebate", "percent",
            "waste", "fixed", "free", "price", "lay", "ship", "tons", "call", "to");

    private List<String> tokens;
    private List<Integer> places;
    private int at;

    private String token() {
        return at < tokens.size() ? tokens.get(at) : "";
    }

    private Bad bad(int code) {
        return new Bad(code, places.get(at));
    }

    private void expect(String word) throws Bad {
        if (!token().equals(word)) {
            throw bad(1);
        }
        at++;
    }

    private int number(int low, int high) throws Bad {
        if (!token().matches("[0-9]+")) {
            throw bad(1);
        }
        BigInteger n = new BigInteger(token());
        if (n.compareTo(BigInteger.valueOf(low)) < 0 || n.compareTo(BigInteger.valueOf(high)) > 0) {
            throw bad(2);
        }
        at++;
        return n.intValue();
    }

    private String name() throws Bad {
        if (!token().matches("[a-z]{1,6}") || KEYWORDS.contains(token())) {
            throw bad(1);
        }
        return token();
    }

    private State parsed() throws Bad {
        tokens = new ArrayList<>();
        places = new ArrayList<>();
        Matcher m = Pattern.compile("[a-z]+|[0-9]+|[^ \n]", Pattern.DOTALL).matcher(input);
        while (m.find()) {
            tokens.add(m.group());
            places.add(m.start());
        }
        places.add(input.length());
        at = 0;
        State n = new State();
        Version v = n.versions.get(0);
        List<String> seen = new ArrayList<>();
        do {
            String first = token();
            String kind = first.equals("slab") || first.equals("slices") ? "mode" : first;
            if (!Arrays.asList("mode", "band", "rebate", "waste", "lay", "ship", "call").contains(kind)) {
                throw bad(1);
            }
            if (Arrays.asList("mode", "waste", "lay").contains(kind) && seen.contains(kind)) {
                throw bad(3);
            }
            seen.add(kind);
            if (kind.equals("band") && v.bands.size() == 6 || kind.equals("rebate") && v.rebates.size() == 4
                    || kind.equals("ship") && n.ships.size() == 8 || kind.equals("call") && n.calls.size() == 20) {
                throw bad(4);
            }
            at++;
            if (kind.equals("mode")) {
                v.slab = first.equals("slab");
            } else if (kind.equals("band")) {
                boolean one = v.bands.isEmpty();
                int from = number(one ? 0 : v.bands.get(v.bands.size() - 1)[0] + 1, one ? 0 : 9999);
                expect("rate");
                v.bands.add(new int[] {from, number(0, 999)});
            } else if (kind.equals("rebate")) {
                int from = number(v.rebates.isEmpty() ? 2 : v.rebates.get(v.rebates.size() - 1)[0] + 1, 99);
                expect("percent");
                v.rebates.add(new int[] {from, number(0, 100)});
            } else if (kind.equals("waste")) {
                expect("fixed");
                v.waste[0] = number(0, 9999);
                expect("free");
                v.waste[1] = number(0, 999);
                expect("price");
                v.waste[2] = number(0, 999);
            } else if (kind.equals("lay")) {
                expect("free");
                v.lay[0] = number(0, 30);
                expect("rate");
                v.lay[1] = number(0, 9999);
            } else if (kind.equals("ship")) {
                Ship ship = new Ship();
                ship.name = name();
                for (Ship other : n.ships) {
                    if (other.name.equals(ship.name)) {
                        throw bad(3);
                    }
                }
                at++;
                expect("tons");
                ship.tons = number(1, 9999);
                n.ships.add(ship);
            } else {
                String name = name();
                Call call = new Call();
                call.ship = -1;
                for (int i = 0; i < n.ships.size(); i++) {
                    if (n.ships.get(i).name.equals(name)) {
                        call.ship = i;
                    }
                }
                if (call.ship < 0) {
                    throw bad(3);
                }
                at++;
                call.first = number(0, 3599);
                expect("to");
                call.last = number(call.first, call.first + 29);
                expect("waste");
                call.waste = number(0, 999);
                n.calls.add(call);
            }
            expect(";");
        } while (at < tokens.size());
        return n;
    }

    int load() {
        try {
            State next = parsed();
            remember();
            s = next;
            errorCode = 0;
            errorPosition = -1;
            return s.ships.size();
        } catch (Bad e) {
            errorCode = e.code;
            errorPosition = e.position;
            return -4;
        } finally {
            input = "";
        }
    }

    int errorCode() {
        return errorCode;
    }

    int errorPosition() {
        return errorPosition;
    }

    // ---- tariff

    private Version v() {
        return s.versions.get(s.versions.size() - 1);
    }

    int count(int what) {
        range(what, 0, 8);
        int pending = 0;
        for (Call c : s.calls) {
            pending += Integer.bitCount(c.pending);
        }
        int[] all = {s.ships.size(), s.calls.size(), s.invoices.size(), s.notes.size(), s.versions.size() - 1, s.today,
            v().bands.size(), v().rebates.size(), pending};
        return all[what];
    }

    int tariff(int what) {
        range(what, 0, 5);
        return new int[] {v().slab ? 1 : 0, v().waste[0], v().waste[1], v().waste[2], v().lay[0], v().lay[1]}[what];
    }

    int band(int band, int what) {
        index(band, v().bands.size());
        range(what, 0, 1);
        return v().bands.get(band)[what];
    }

    int rebate(int rebate, int what) {
        index(rebate, v().rebates.size());
        range(what, 0, 1);
        return v().rebates.get(rebate)[what];
    }

    int bandOf(int tons) {
        range(tons, 0, 9999);
        return v().bandOf(tons);
    }

    int dues(int tons) {
        range(tons, 0, 9999);
        return v().dues(tons);
    }

    int tonsIn(int tons, int band) {
        index(band, v().bands.size());
        range(tons, 0, 9999);
        return v().tonsIn(tons, band);
    }

    int wasteFee(int waste) {
        range(waste, 0, 999);
        return v().wasteFee(waste);
    }

    // ---- calls

    int tons(int ship) {
        index(ship, s.ships.size());
        return s.ships.get(ship).tons;
    }

    private static List<Integer> ordered(State st, int ship, int year) {
        List<Integer> list = new ArrayList<>();
        for (int i = 0; i < st.calls.size(); i++) {
            Call c = st.calls.get(i);
            if (c.ship == ship && c.first / 360 == year && !c.cancelled) {
                list.add(i);
            }
        }
        list.sort((a, b) -> st.calls.get(a).first != st.calls.get(b).first
                ? Integer.compare(st.calls.get(a).first, st.calls.get(b).first) : Integer.compare(a, b));
        return list;
    }

    private static int rank(State st, int call) {
        Call c = st.calls.get(call);
        return ordered(st, c.ship, c.first / 360).indexOf(call) + 1;
    }

    int calls(int ship, int year) {
        index(ship, s.ships.size());
        range(year, 0, 9);
        return ordered(s, ship, year).size();
    }

    int call(int call, int what) {
        index(call, s.calls.size());
        range(what, 0, 7);
        Call c = s.calls.get(call);
        int billed = 0;
        for (int line = 0; line < 3; line++) {
            for (Invoice i : s.invoices) {
                if (i.call == call && (i.lines >> line & 1) == 1 && (i.credited >> line & 1) == 0) {
                    billed |= 1 << line;
                }
            }
        }
        return new int[] {c.ship, c.first, c.last, c.waste, c.cancelled ? 1 : 0, rank(s, call),
            v().percent(rank(s, call)), billed}[what];
    }

    private static int layDays(Call c, Version v) {
        int set = 0;
        for (int day = v.lay[0]; day <= c.last - c.first; day++) {
            set |= 1 << day;
        }
        return set;
    }

    int layDays(int call) {
        index(call, s.calls.size());
        return layDays(s.calls.get(call), v());
    }

    int pending(int call) {
        index(call, s.calls.size());
        return s.calls.get(call).pending;
    }

    int upheld(int call) {
        index(call, s.calls.size());
        return s.calls.get(call).upheld;
    }

    int billedDays(int call) {
        index(call, s.calls.size());
        int set = 0;
        for (Invoice i : s.invoices) {
            if (i.call == call && (i.credited & 8) == 0) {
                set |= i.days;
            }
        }
        return set;
    }

    int billable(int call) {
        return layDays(call) & ~(billedDays(call) | pending(call) | upheld(call));
    }

    private static int line(State st, int call, int line, Version v) {
        Call c = st.calls.get(call);
        int dues = v.dues(st.ships.get(c.ship).tons);
        if (line == 0) {
            return dues;
        }
        if (line == 1) {
            return -(int) ((long) dues * v.percent(rank(st, call)) / 100);
        }
        if (line == 2) {
            return v.wasteFee(c.waste);
        }
        return v.lay[1] * Integer.bitCount(layDays(c, v) & ~(c.pending | c.upheld));
    }

    int amount(int call, int line) {
        index(call, s.calls.size());
        range(line, 0, 3);
        return line(s, call, line, v());
    }

    private static int total(State st, int call) {
        if (st.calls.get(call).cancelled) {
            return 0;
        }
        int sum = 0;
        for (int line = 0; line < 4; line++) {
            sum += line(st, call, line, st.versions.get(st.versions.size() - 1));
        }
        return sum;
    }

    int callTotal(int call) {
        index(call, s.calls.size());
        return total(s, call);
    }

    // ---- invoices

    int invoice(int invoice, int what) {
        index(invoice, s.invoices.size());
        range(what, 0, 5);
        Invoice i = s.invoices.get(invoice);
        return new int[] {i.call, i.date, i.version, i.lines, i.credited, i.days}[what];
    }

    int line(int invoice, int line) {
        index(invoice, s.invoices.size());
        range(line, 0, 3);
        return s.invoices.get(invoice).amounts[line];
    }

    private static boolean counts(Invoice i, int line) {
        return (i.lines >> line & 1) == 1 && (i.credited >> line & 1) == 0;
    }

    int net(int invoice) {
        index(invoice, s.invoices.size());
        int sum = 0;
        for (int line = 0; line < 4; line++) {
            if (counts(s.invoices.get(invoice), line)) {
                sum += s.invoices.get(invoice).amounts[line];
            }
        }
        return sum;
    }

    private int shipOf(int invoice) {
        return s.calls.get(s.invoices.get(invoice).call).ship;
    }

    int open(int invoice) {
        index(invoice, s.invoices.size());
        long pot = s.ships.get(shipOf(invoice)).paid;
        for (int i = 0; i < s.invoices.size(); i++) {
            if (shipOf(i) == shipOf(invoice) && net(i) < 0) {
                pot -= net(i);
            }
        }
        int open = 0;
        for (int i = 0; i <= invoice; i++) {
            if (shipOf(i) == shipOf(invoice) && net(i) > 0) {
                long part = Math.min(pot, net(i));
                pot -= part;
                open = (int) (net(i) - part);
            } else {
                open = 0;
            }
        }
        return open;
    }

    int rebuilt(int invoice, int line) {
        index(invoice, s.invoices.size());
        range(line, 0, 3);
        Invoice i = s.invoices.get(invoice);
        if (!counts(i, line)) {
            return 0;
        }
        Version v = s.versions.get(i.version);
        Call c = s.calls.get(i.call);
        if (line == 3) {
            return Integer.bitCount(i.days & ~c.pending & ~c.upheld) * v.lay[1];
        }
        return line(s, i.call, line, v);
    }

    boolean isStale(int invoice) {
        index(invoice, s.invoices.size());
        boolean stale = false;
        for (int line = 0; line < 4; line++) {
            stale |= counts(s.invoices.get(invoice), line) && line(invoice, line) != rebuilt(invoice, line);
        }
        return stale;
    }

    int staleCount() {
        int n = 0;
        for (int i = 0; i < s.invoices.size(); i++) {
            n += isStale(i) ? 1 : 0;
        }
        return n;
    }

    int contested(int invoice) {
        index(invoice, s.invoices.size());
        Invoice i = s.invoices.get(invoice);
        Call c = s.calls.get(i.call);
        return (i.credited & 8) != 0 ? 0 : Integer.bitCount(i.days & (c.pending | c.upheld));
    }

    int note(int note, int what) {
        index(note, s.notes.size());
        range(what, 0, 3);
        return s.notes.get(note)[what];
    }

    long balance(int ship) {
        index(ship, s.ships.size());
        long sum = 0;
        for (int i = 0; i < s.invoices.size(); i++) {
            sum += shipOf(i) == ship ? net(i) : 0;
        }
        return sum - s.ships.get(ship).paid;
    }

    long paid(int ship) {
        index(ship, s.ships.size());
        return s.ships.get(ship).paid;
    }

    int oldestOpen(int ship) {
        index(ship, s.ships.size());
        for (int i = 0; i < s.invoices.size(); i++) {
            if (shipOf(i) == ship && open(i) > 0) {
                return i;
            }
        }
        return -1;
    }

    int overdue(int days) {
        range(days, 0, 3599);
        int n = 0;
        for (int i = 0; i < s.invoices.size(); i++) {
            n += open(i) > 0 && s.invoices.get(i).date + days <= s.today ? 1 : 0;
        }
        return n;
    }

    long revenue(int year, int line) {
        range(year, 0, 9);
        range(line, 0, 3);
        long sum = 0;
        for (Invoice i : s.invoices) {
            if (s.calls.get(i.call).first / 360 == year && counts(i, line)) {
                sum += i.amounts[line];
            }
        }
        return sum;
    }

    long rebates(int ship, int year) {
        index(ship, s.ships.size());
        range(year, 0, 9);
        long sum = 0;
        for (int i = 0; i < s.calls.size(); i++) {
            Call c = s.calls.get(i);
            sum += c.ship == ship && c.first / 360 == year ? amount(i, 1) : 0;
        }
        return sum;
    }

    // ---- what would be

    private static int add(State st, int ship, int first, int last, int waste) {
        Call c = new Call();
        c.ship = ship;
        c.first = first;
        c.last = last;
        c.waste = waste;
        st.calls.add(c);
        return st.calls.size() - 1;
    }

    private static long totalOfShip(State st, int ship) {
        long sum = 0;
        for (int i = 0; i < st.calls.size(); i++) {
            sum += st.calls.get(i).ship == ship ? total(st, i) : 0;
        }
        return sum;
    }

    int quote(int ship, int first, int last, int waste) {
        index(ship, s.ships.size());
        range(first, 0, 3599);
        range(last, first, first + 29);
        range(waste, 0, 999);
        State c = s.copy();
        return total(c, add(c, ship, first, last, waste));
    }

    int callsToRebate(int ship, int year) {
        index(ship, s.ships.size());
        range(year, 0, 9);
        List<Integer> now = ordered(s, ship, year);
        int percent = now.isEmpty() ? 0 : v().percent(rank(s, now.get(now.size() - 1)));
        State c = s.copy();
        for (int more = 1; more <= 150; more++) {
            int added = add(c, ship, year * 360 + 359, year * 360 + 359, 0);
            if (v().percent(rank(c, added)) > percent) {
                return more;
            }
        }
        return -1;
    }

    int worth(int call) {
        index(call, s.calls.size());
        if (s.calls.get(call).cancelled) {
            return 0;
        }
        int ship = s.calls.get(call).ship;
        State c = s.copy();
        c.calls.get(call).cancelled = true;
        return (int) (totalOfShip(s, ship) - totalOfShip(c, ship));
    }

    int busiestYear(int ship) {
        index(ship, s.ships.size());
        int best = 9;
        for (int year = 8; year >= 0; year--) {
            if (calls(ship, year) >= calls(ship, best)) {
                best = year;
            }
        }
        return best;
    }

    int bestDay(int ship, int from, int to, int days, int waste) {
        index(ship, s.ships.size());
        range(from, 0, 3599);
        range(to, from, Math.min(3599, from + 99));
        range(days, 1, 30);
        range(waste, 0, 999);
        int best = -1;
        long least = Long.MAX_VALUE;
        for (int day = from; day <= to; day++) {
            State c = s.copy();
            add(c, ship, day, day + days - 1, waste);
            long sum = totalOfShip(c, ship);
            if (sum < least) {
                least = sum;
                best = day;
            }
        }
        return best;
    }

    // ---- changes

    int addCall(int ship, int first, int last, int waste) {
        quote(ship, first, last, waste);
        state(s.calls.size() < 40);
        remember();
        return add(s, ship, first, last, waste);
    }

    int cancel(int call) {
        index(call, s.calls.size());
        state(!s.calls.get(call).cancelled && call(call, 7) == 0 && billedDays(call) == 0);
        remember();
        s.calls.get(call).cancelled = true;
        int left = 0;
        for (int year = 0; year < 10; year++) {
            left += calls(s.calls.get(call).ship, year);
        }
        return left;
    }

    int setWaste(int call, int waste) {
        index(call, s.calls.size());
        range(waste, 0, 999);
        remember();
        int old = s.calls.get(call).waste;
        s.calls.get(call).waste = waste;
        return old;
    }

    int setTons(int ship, int tons) {
        index(ship, s.ships.size());
        range(tons, 1, 9999);
        remember();
        int old = s.ships.get(ship).tons;
        s.ships.get(ship).tons = tons;
        return old;
    }

    private boolean canBill(int call) {
        return !s.calls.get(call).cancelled && (call(call, 7) != 7 || billable(call) != 0) && s.invoices.size() < 60;
    }

    private int make(int call) {
        Invoice i = new Invoice();
        i.call = call;
        i.date = s.today;
        i.version = s.versions.size() - 1;
        i.days = billable(call);
        i.lines = 7 & ~call(call, 7);
        for (int line = 0; line < 3; line++) {
            i.amounts[line] = (i.lines >> line & 1) == 1 ? amount(call, line) : 0;
        }
        if (i.days != 0) {
            i.lines |= 8;
            i.amounts[3] = Integer.bitCount(i.days) * v().lay[1];
        }
        s.invoices.add(i);
        return s.invoices.size() - 1;
    }

    int bill(int call) {
        index(call, s.calls.size());
        state(canBill(call));
        remember();
        return make(call);
    }

    int billAll(int ship) {
        index(ship, s.ships.size());
        remember();
        int n = 0;
        for (int i = 0; i < s.calls.size(); i++) {
            if (s.calls.get(i).ship == ship && canBill(i)) {
                make(i);
                n++;
            }
        }
        return n;
    }

    int credit(int invoice, int lines) {
        index(invoice, s.invoices.size());
        range(lines, 1, 15);
        Invoice i = s.invoices.get(invoice);
        int sum = 0;
        for (int line = 0; line < 4; line++) {
            if ((lines >> line & 1) == 1) {
                state(counts(i, line));
                sum += i.amounts[line];
            }
        }
        state(s.notes.size() < 40);
        remember();
        s.invoices.get(invoice).credited |= lines;
        s.notes.add(new int[] {invoice, lines, s.today, -sum});
        return s.notes.size() - 1;
    }

    int dispute(int call, int day) {
        index(call, s.calls.size());
        Call c = s.calls.get(call);
        range(day, v().lay[0], c.last - c.first);
        state(!c.cancelled && (c.pending >> day & 1) == 0 && (c.upheld >> day & 1) == 0);
        remember();
        c = s.calls.get(call);
        c.pending |= 1 << day;
        return Integer.bitCount(c.pending);
    }

    int settle(int call, int day, boolean inFavour) {
        index(call, s.calls.size());
        Call c = s.calls.get(call);
        state(day >= 0 && day <= 29 && (c.pending >> day & 1) == 1);
        remember();
        c.pending ^= 1 << day;
        c.upheld ^= inFavour ? 1 << day : 0;
        return Integer.bitCount(c.pending);
    }

    long pay(int ship, int amount) {
        index(ship, s.ships.size());
        range(amount, 1, 1000000000);
        remember();
        s.ships.get(ship).paid += amount;
        return s.ships.get(ship).paid;
    }

    int advance(int days) {
        range(days, 1, 3600);
        state(s.today + days <= 99999);
        remember();
        s.today += days;
        return s.today;
    }

    int setRate(int band, int rate) {
        index(band, v().bands.size());
        range(rate, 0, 999);
        state(s.versions.size() <= 20);
        remember();
        s.versions.add(v().copy());
        v().bands.get(band)[1] = rate;
        return s.versions.size() - 1;
    }

    int setPercent(int rebate, int percent) {
        index(rebate, v().rebates.size());
        range(percent, 0, 100);
        state(s.versions.size() <= 20);
        remember();
        s.versions.add(v().copy());
        v().rebates.get(rebate)[1] = percent;
        return s.versions.size() - 1;
    }

    int setLay(int free, int rate) {
        range(free, 0, 30);
        range(rate, 0, 9999);
        state(s.versions.size() <= 20);
        remember();
        s.versions.add(v().copy());
        v().lay = new int[] {free, rate};
        return s.versions.size() - 1;
    }

    int undo() {
        state(!past.isEmpty());
        s = past.remove(past.size() - 1);
        return past.size();
    }

    int undoCount() {
        return past.size();
    }

    // ---- output

    int writeStatement(int ship) {
        index(ship, s.ships.size());
        String text = s.ships.get(ship).name + "\n";
        for (int i = 0; i < s.invoices.size(); i++) {
            if (shipOf(i) == ship) {
                text += i + " " + net(i) + " " + open(i) + "\n";
            }
        }
        output = text + balance(ship) + "\n";
        return output.length();
    }

    int writeInvoice(int invoice) {
        index(invoice, s.invoices.size());
        Invoice i = s.invoices.get(invoice);
        Call c = s.calls.get(i.call);
        String text = String.format("invoice %d ship %s call %d date %d%n", invoice, s.ships.get(c.ship).name, i.call, i.date);
        String[] names = {"dues", "rebate", "waste", "lay"};
        for (int line = 0; line < 4; line++) {
            if ((i.lines >> line & 1) == 0) {
                continue;
            }
            text += names[line] + " " + i.amounts[line];
            if (line == 3) {
                text += " days";
                for (int day = 0; day < 30; day++) {
                    if ((i.days >> day & 1) == 1) {
                        text += " " + day + ((c.pending >> day & 1) == 1 ? "?" : (c.upheld >> day & 1) == 1 ? "-" : "");
                    }
                }
            }
            if ((i.credited >> line & 1) == 1) {
                text += " credited";
            } else if (rebuilt(invoice, line) != i.amounts[line]) {
                text += " now " + rebuilt(invoice, line);
            }
            text += "\n";
        }
        output = text + String.format("net %d open %d%n", net(invoice), open(invoice));
        return output.length();
    }

    int writeTariff(int version) {
        index(version, s.versions.size());
        Version t = s.versions.get(version);
        Version old = version == 0 ? t : s.versions.get(version - 1);
        String text = "version " + version + "\n" + (t.slab ? "slab" : "slices") + "\n";
        for (int i = 0; i < t.bands.size(); i++) {
            int[] b = t.bands.get(i);
            text += "band " + b[0] + " rate " + b[1] + (Arrays.equals(b, old.bands.get(i)) ? "" : " changed") + "\n";
        }
        for (int i = 0; i < t.rebates.size(); i++) {
            int[] r = t.rebates.get(i);
            text += "rebate " + r[0] + " percent " + r[1] + (Arrays.equals(r, old.rebates.get(i)) ? "" : " changed") + "\n";
        }
        text += "waste fixed " + t.waste[0] + " free " + t.waste[1] + " price " + t.waste[2] + "\n";
        output = text + "lay free " + t.lay[0] + " rate " + t.lay[1] + (Arrays.equals(t.lay, old.lay) ? "" : " changed") + "\n";
        return output.length();
    }

    int outputByte(int index) {
        index(index, output.length());
        return output.charAt(index);
    }
}
