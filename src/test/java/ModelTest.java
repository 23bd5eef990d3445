import java.lang.reflect.InvocationTargetException;
import java.lang.reflect.Method;
import java.lang.reflect.Modifier;
import java.util.ArrayList;
import java.util.Comparator;
import java.util.List;
import java.util.Random;

/**
 * Random runs of calls on PortDues and on the Model: every answer and every exception is the same. All calls of
 * a run are tried out, as Dues says, so that a question that changes something is seen by a later one.
 */
final class ModelTest {
    private static final int RUNS = 170;
    // Below 512, so that there are calls left to look at the output and to choose arguments.
    private static final int CALLS = 470;
    // append() 40 times, truncate(), load() and the two questions about the error
    private static final int CALLS_OF_A_TEXT = 44;
    private static final String[] CHANGES = {"addCall", "cancel", "setWaste", "setTons", "bill", "billAll", "credit",
        "dispute", "settle", "pay", "advance", "setRate", "setPercent", "setLay", "undo"};

    private final Random random;
    private final List<Method> queries = new ArrayList<>();
    private final List<Method> changes = new ArrayList<>();
    private Dues x;
    private Model model;
    private int calls;

    private ModelTest(long seed) {
        random = new Random(seed);
        for (Method m : Dues.class.getDeclaredMethods()) {
            if (!Modifier.isPublic(m.getModifiers())) {
                continue;
            }
            boolean change = List.of(CHANGES).contains(m.getName());
            boolean text = List.of("append", "truncate", "load").contains(m.getName());
            if (change) {
                changes.add(m);
            } else if (!text) {
                queries.add(m);
            }
        }
        // The order of getDeclaredMethods is not fixed; the runs shall be the same each time.
        changes.sort(Comparator.comparing(Method::getName));
        queries.sort(Comparator.comparing(Method::getName));
    }

    public static void main(String[] args) {
        int runs = args.length > 0 ? Integer.parseInt(args[0]) : RUNS;
        long seed = args.length > 1 ? Long.parseLong(args[1]) : 1;
        for (int run = 0; run < runs; run++) {
            new ModelTest(seed * 1000003 + run).run(run);
        }
        Check.finish();
    }

    private void run(int run) {
        x = new Dues();
        model = new Model();
        calls = 0;
        if (random.nextInt(8) != 0) {
            text(run, randomText(random.nextInt(4) == 0));
        }
        int quiet = 1 + random.nextInt(6);
        // Some runs only grow, so that they come to the limits.
        boolean grows = random.nextInt(3) == 0;
        while (calls < CALLS) {
            int kind = random.nextInt(100);
            if (kind < 1 && !grows && calls + CALLS_OF_A_TEXT <= CALLS) {
                text(run, randomText(random.nextInt(3) == 0));
            } else if (kind < 3) {
                put(run, random.nextBoolean() ? "s" + random.nextInt(9) : name(random.nextInt(9)));
                both(run, method("find"), new Object[0]);
            } else {
                boolean ask = random.nextInt(6) < quiet;
                List<Method> list = ask ? queries : changes;
                Method m = list.get(random.nextInt(list.size()));
                boolean rare = m.getName().equals("bestDay") || grows && m.getName().equals("undo");
                if (rare && random.nextInt(4) != 0) {
                    continue;
                }
                both(run, m, arguments(m));
                if (m.getName().startsWith("write")) {
                    compareOutput(run);
                }
            }
        }
    }

    private Method method(String name) {
        for (Method m : Dues.class.getDeclaredMethods()) {
            if (m.getName().equals(name)) {
                return m;
            }
        }
        throw new IllegalArgumentException(name);
    }

    private void compareOutput(int run) {
        StringBuilder got = new StringBuilder();
        StringBuilder want = new StringBuilder();
        for (int i = 0; answer(() -> model.outputByte(got.length())).startsWith("throws") == false; i++) {
            want.append((char) model.outputByte(i));
            got.append((char) x.outputByte(i));
        }
        Check.due("run " + run + ": output", got.toString(), want.toString());
        Check.dueThrow("run " + run + ": end of the output", Check.INDEX, () -> x.outputByte(want.length()));
    }

    private interface Question {
        Object ask() throws Exception;
    }

    private static String answer(Question question) {
        try {
            return String.valueOf(question.ask());
        } catch (InvocationTargetException e) {
            return "throws " + e.getCause().getClass().getSimpleName();
        } catch (Exception e) {
            return "throws " + e.getClass().getSimpleName();
        }
    }

    private void both(int run, Method m, Object[] arguments) {
        calls++;
        x.tryOut();
        String got = answer(() -> m.invoke(x, arguments));
        x.endOfTrying();
        String want = answer(() -> twin(m).invoke(model, twinArguments(m, arguments)));
        Check.due("run " + run + ", call " + calls + ": " + m.getName() + java.util.Arrays.toString(arguments), got, want);
    }

    private static Method twin(Method m) throws NoSuchMethodException {
        Class<?>[] types = m.getName().equals("append") ? new Class<?>[] {int[].class} : m.getParameterTypes();
        return Model.class.getDeclaredMethod(m.getName(), types);
    }

    private static Object[] twinArguments(Method m, Object[] arguments) {
        if (!m.getName().equals("append")) {
            return arguments;
        }
        int[] words = new int[5];
        for (int i = 0; i < 5; i++) {
            words[i] = (Integer) arguments[i];
        }
        return new Object[] {words};
    }

    private void put(int run, String text) {
        Object[] words = new Object[5];
        for (int at = 0; at < text.length(); at += 20) {
            for (int i = 0; i < 5; i++) {
                int word = 0;
                for (int j = 0; j < 4; j++) {
                    int place = at + i * 4 + j;
                    word = word << 8 | (place < text.length() ? text.charAt(place) & 255 : 0);
                }
                words[i] = word;
            }
            both(run, method("append"), words.clone());
        }
        both(run, method("truncate"), new Object[] {text.length()});
    }

    private void text(int run, String text) {
        put(run, text);
        both(run, method("load"), new Object[0]);
        both(run, method("errorCode"), new Object[0]);
        both(run, method("errorPosition"), new Object[0]);
    }

    // ---- texts

    private static String name(int i) {
        return new String[] {"a", "b", "ab", "abcdef", "tonsx", "z", "zz", "q", "none"}[i];
    }

    private int some(int most) {
        return random.nextInt(3) == 0 ? (random.nextBoolean() ? most : 0) : random.nextInt(most + 1);
    }

    private String randomText(boolean broken) {
        List<String> parts = new ArrayList<>();
        if (random.nextBoolean()) {
            parts.add(random.nextBoolean() ? "slab" : "slices");
        }
        int from = 0;
        int bands = random.nextInt(7);
        for (int i = 0; i < bands; i++) {
            parts.add("band " + from + " rate " + some(random.nextBoolean() ? 5 : 999));
            from += 1 + random.nextInt(random.nextBoolean() ? 10 : 1600);
        }
        from = 2;
        int rebates = random.nextInt(5);
        for (int i = 0; i < rebates; i++) {
            parts.add("rebate " + from + " percent " + some(100));
            from += 1 + random.nextInt(3);
        }
        if (random.nextInt(4) != 0) {
            parts.add("waste fixed " + some(9999) + " free " + some(999) + " price " + some(999));
        }
        if (random.nextInt(4) != 0) {
            parts.add("lay free " + random.nextInt(random.nextBoolean() ? 31 : 4) + " rate " + some(9999));
        }
        int ships = random.nextInt(5) == 0 ? 8 : 1 + random.nextInt(3);
        for (int i = 0; i < ships; i++) {
            parts.add("ship " + name(i) + " tons " + (1 + random.nextInt(random.nextBoolean() ? 20 : 9999)));
        }
        int count = random.nextInt(13);
        for (int i = 0; i < count; i++) {
            int first = random.nextInt(random.nextBoolean() ? 400 : 3600);
            parts.add("call " + name(random.nextInt(ships)) + " " + first + " to " + (first + random.nextInt(30))
                    + " waste " + some(999));
        }
        if (broken) {
            breakSomething(parts);
        }
        StringBuilder text = new StringBuilder();
        for (String part : parts) {
            if (text.length() + part.length() < 790) {
                text.append(part).append(random.nextInt(9) == 0 ? " ;\n" : ";");
            }
        }
        if (broken && random.nextBoolean() && text.length() > 0) {
            int place = random.nextInt(text.length());
            text.setCharAt(place, " ;a0\n9x\u00e9".charAt(random.nextInt(8)));
        }
        return text.toString();
    }

    private void breakSomething(List<String> parts) {
        String[] more = {"slab", "slices", "band 0 rate 1", "band 9999 rate 1", "rebate 99 percent 5", "rebate 1 percent 5",
            "waste fixed 1 free 1 price 1", "lay free 31 rate 1", "lay free 1 rate 1", "ship a tons 5", "ship rate tons 5",
            "ship newone tons 0", "call none 1 to 2 waste 3", "call a 5 to 4 waste 3", "call a 5 to 35 waste 3", "",
            "call a 5 to 6 waste 1000", "call a 3600 to 3600 waste 1", "ship longname tons 5", "band 00000000000000 rate 1"};
        int times = 1 + random.nextInt(3);
        for (int i = 0; i < times; i++) {
            int place = random.nextInt(parts.size() + 1);
            if (random.nextInt(3) != 0 || parts.isEmpty()) {
                parts.add(place, more[random.nextInt(more.length)]);
            } else {
                parts.remove(random.nextInt(parts.size()));
            }
        }
    }

    // ---- arguments

    private Object[] arguments(Method m) {
        Object[] all = new Object[m.getParameterCount()];
        for (int i = 0; i < all.length; i++) {
            String type = m.getParameterTypes()[i].getName();
            all[i] = type.equals("boolean") ? (Object) random.nextBoolean() : (Object) argument(m.getName(), i, all);
        }
        return all;
    }

    private int number(int count) {
        if (random.nextInt(25) == 0) {
            return wild();
        }
        return count > 0 && random.nextInt(25) != 0 ? random.nextInt(count) : random.nextBoolean() ? -1 : count;
    }

    private int wild() {
        int[] all = {Integer.MIN_VALUE, Integer.MAX_VALUE, -1, 30, 31, 32, 33, 64, 3599, 3600, 9999, 10000, 999, 1000};
        return all[random.nextInt(all.length)];
    }

    private int within(int lowest, int highest) {
        int kind = random.nextInt(40);
        if (kind == 0) {
            return wild();
        }
        if (kind == 1) {
            return random.nextBoolean() ? lowest - 1 : highest + 1;
        }
        if (kind < 6) {
            return random.nextBoolean() ? lowest : highest;
        }
        return lowest + random.nextInt(highest - lowest + 1);
    }

    private int argument(String name, int place, Object[] before) {
        String about = name + " " + place;
        int last = place > 0 && before[place - 1] instanceof Integer ? (Integer) before[place - 1] : 0;
        last = Math.max(Math.min(last, 5000), -5000);
        switch (about) {
            case "count 0": return within(0, 8);
            case "tariff 0": case "invoice 1": return within(0, 5);
            case "band 0": case "setRate 0": case "tonsIn 1": return number(x.count(6));
            case "rebate 0": case "setPercent 0": return number(x.count(7));
            case "band 1": case "rebate 1": return within(0, 1);
            case "bandOf 0": case "dues 0": case "tonsIn 0":
                return random.nextBoolean() && x.count(6) > 0
                        ? x.band(random.nextInt(x.count(6)), 0) + random.nextInt(3) - 1 : within(0, 9999);
            case "wasteFee 0": case "setWaste 1": case "quote 3": case "addCall 3": case "bestDay 4":
                return within(0, 999);
            case "calls 1": case "rebates 1": case "callsToRebate 1": case "revenue 0":
                return random.nextInt(3) == 0 ? 0 : within(0, 9);
            case "call 1": return within(0, 7);
            case "amount 1": case "line 1": case "rebuilt 1": case "note 1": case "revenue 1": return within(0, 3);
            case "overdue 0": return random.nextBoolean() ? within(0, 30) : within(0, 3599);
            case "quote 1": case "addCall 1": case "bestDay 1":
                return random.nextBoolean() ? within(0, 400) : within(0, 3599);
            case "quote 2": case "addCall 2": return within(last, last + 29);
            case "bestDay 2": return within(last, last + 99);
            case "bestDay 3": return within(1, 30);
            case "setTons 1": return within(1, 9999);
            case "credit 1": return random.nextInt(3) == 0 ? within(1, 15) : 1 << random.nextInt(4);
            case "dispute 1": case "settle 1": return random.nextBoolean() ? within(0, 5) : within(0, 29);
            case "pay 1": return random.nextBoolean() ? within(1, 5000) : within(1, 1000000000);
            case "advance 0": return random.nextInt(3) != 0 ? within(1, 20) : within(1, 3600);
            case "setRate 1": return within(0, 999);
            case "setPercent 1": return within(0, 100);
            case "setLay 0": return random.nextBoolean() ? within(0, 5) : within(0, 30);
            case "setLay 1": return within(0, 9999);
            case "outputByte 0": return within(0, 60);
            case "writeTariff 0": return number(x.count(4) + 1);
            case "note 0": return number(x.count(3));
            case "invoice 0": case "line 0": case "net 0": case "open 0": case "rebuilt 0": case "isStale 0":
            case "contested 0": case "credit 0": case "writeInvoice 0": return number(x.count(2));
            case "call 0": case "layDays 0": case "pending 0": case "upheld 0": case "billedDays 0": case "billable 0":
            case "amount 0": case "callTotal 0": case "worth 0": case "cancel 0": case "setWaste 0": case "bill 0":
            case "dispute 0": case "settle 0": return number(x.count(1));
            case "tons 0": case "calls 0": case "balance 0": case "paid 0": case "oldestOpen 0": case "rebates 0":
            case "quote 0": case "callsToRebate 0": case "busiestYear 0": case "addCall 0": case "setTons 0":
            case "billAll 0": case "pay 0": case "writeStatement 0": case "bestDay 0": return number(x.count(0));
            default: throw new IllegalStateException(about);
        }
    }
}
