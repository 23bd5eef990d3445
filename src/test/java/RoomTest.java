import java.lang.management.ManagementFactory;

/**
 * All calls of a run live in one room of some 600,000 objects and 7.3 million fields and elements.
 * Bytes stand in for both: an object has at least 16 bytes, a field or element at most 8.
 */
final class RoomTest {
    private static final String SHIPS = "ship aaaaaa tons 1;ship bbbbbb tons 1;ship cccccc tons 1;ship dddddd tons 1;"
            + "ship eeeeee tons 1;ship ffffff tons 1;ship gggggg tons 1;ship hhhhhh tons 1;";

    private static final com.sun.management.ThreadMXBean BEAN =
            (com.sun.management.ThreadMXBean) ManagementFactory.getThreadMXBean();

    private RoomTest() {
    }

    public static void main(String[] args) {
        // Once before, so that no class is loaded while it is measured.
        anObject();
        runOfLoads();
        plainRun();
        long object = anObject();
        long loads = runOfLoads();
        long plain = plainRun();
        System.out.println("bytes: a new object " + object + ", a run of loads " + loads + ", another run " + plain);
        Check.due("a new object is small", object < 200000, true);
        Check.due("a run of loads makes nothing", loads < 20000, true);
        Check.due("other calls make nothing", plain < 20000, true);
        Check.finish();
    }

    private static long allocated() {
        return BEAN.getThreadAllocatedBytes(Thread.currentThread().getId());
    }

    private static long anObject() {
        long before = allocated();
        PortDues x = new PortDues();
        long after = allocated();
        return after - before + (x.undoCount() > 0 ? 1 : 0);
    }

    private static long runOfLoads() {
        PortDues x = new PortDues();
        int[] words = words(SHIPS);
        long before = allocated();
        for (int calls = 0; calls + 11 <= 512; calls += 11) {
            load(x, words);
            if (x.count(0) != 8) {
                Check.due("the text", x.errorPosition(), PortDues.NONE);
            }
        }
        return allocated() - before;
    }

    /** The bytes of a text, with spaces behind it. */
    private static int[] words(String text) {
        int[] words = new int[(text.length() + 19) / 20 * 5];
        for (int i = 0; i < words.length * 4; i++) {
            words[i / 4] |= (i < text.length() ? text.charAt(i) : ' ') << (24 - i % 4 * 8);
        }
        return words;
    }

    private static void load(PortDues x, int[] words) {
        for (int i = 0; i < words.length; i += 5) {
            x.append(words[i], words[i + 1], words[i + 2], words[i + 3], words[i + 4]);
        }
        x.load();
    }

    private static long plainRun() {
        PortDues x = new PortDues();
        load(x, words("band 0 rate 2;rebate 2 percent 9;lay free 0 rate 7;ship a tons 9;"));
        long before = allocated();
        for (int i = 0; i < 40; i++) {
            x.addCall(0, i, i + 29, i);
        }
        x.billAll(0);
        for (int i = 0; i < 40; i++) {
            x.credit(i, 2);
            x.dispute(i, i % 30);
            x.settle(i, i % 30, true);
            x.writeInvoice(i);
            x.worth(i);
            x.undo();
        }
        for (int i = 0; i < 40; i++) {
            x.writeStatement(0);
            x.overdue(0);
            x.staleCount();
            x.bestDay(0, i, i + 99, 1, 0);
        }
        return allocated() - before;
    }
}
