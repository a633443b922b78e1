import java.lang.management.ManagementFactory;

/** How much the calls of an object make in all, and texts and runs that nest deep. */
public final class RoomTests {
    /** The room of a run has 7.3 million fields and elements: 4 bytes each, and far below that. */
    private static final long MOST_BYTES_OF_A_RUN = 4_000_000;
    private static final long MOST_BYTES_OF_AN_OBJECT = 16_000;
    private static final long SMALL_STACK = 200_000;

    private static final Check CHECK = new Check();

    private RoomTests() {
    }

    public static void main(String[] args) throws InterruptedException {
        boolean[] thrown = new boolean[1];
        Thread thread = new Thread(null, RoomTests::nestDeep, "deep", SMALL_STACK);
        thread.setUncaughtExceptionHandler((t, e) -> {
            System.out.println(e);
            thrown[0] = true;
        });
        thread.start();
        thread.join();
        CHECK.fails("something was thrown", thrown[0]);
        manyObjects();
        manyRuns();
        CHECK.end("RoomTests");
    }

    private static long allocated() {
        return ((com.sun.management.ThreadMXBean) ManagementFactory.getThreadMXBean()).getCurrentThreadAllocatedBytes();
    }

    private static void manyObjects() {
        new LevelFlow().takeProgram();
        long before = allocated();
        for (int k = 0; k < 512; k++) {
            new LevelFlow();
        }
        long each = (allocated() - before) / 512;
        System.out.println("a new object takes " + each + " bytes");
        CHECK.holds("a new object is small", each < MOST_BYTES_OF_AN_OBJECT);
    }

    /** Deep runs and long outputs, in turn, until the object has been called 512 times. */
    private static void manyRuns() {
        String text = "(chg c((n int))list(if n(write(cons n(lmod(jump c(sub n 1)))))(write nil)))"
            + "(chg d((l list)(n int))list(case l(jump c n)(h t(if(less 90 h)(jump d l n)(jump c h)))))"
            + "(fun main((l lmod))lmod(lmod(read l x(jump d x 400))))";
        long before = allocated();
        Flow flow = new Flow();
        CHECK.same("taken", flow.take(text), 0);
        CHECK.same("output", flow.lookAt(7), 400);
        int calls = 4 + (text.length() + 7) / 8;
        for (; calls < 508; calls += 4) {
            flow.insertAhead(0, 91);
            CHECK.same("refused", flow.applyBatch(), -7);
            flow.dropBatch();
            CHECK.same("applied", flow.applyBatch(), 400);
        }
        long all = allocated() - before;
        System.out.println("512 calls of one object take " + all + " bytes");
        CHECK.holds("512 calls take little room", all < MOST_BYTES_OF_A_RUN);
    }

    private static String inMain(String ahead, String inside, String behind, int count) {
        return "(fun main((l lmod))lmod" + ahead.repeat(count) + inside + behind.repeat(count) + ")";
    }

    private static void nestDeep() {
        openedOnly("(if", 1350);
        openedOnly("(imod(write", 360);
        openedOnly("(call f", 550);
        Flow flow = new Flow();
        flow.feed(7);
        CHECK.same("deep ifs", flow.take(inMain("(if 1", " l", " l)", 450)), 0);
        CHECK.same("their steps", flow.lookAt(8), 901);
        flow = new Flow();
        CHECK.same("deep adds", flow.take(inMain("(add(add 1 2)", "(add 1 2)", ")", 280)), 6);
        CHECK.same("their place", flow.lookAt(2), "(fun main((l lmod))lmod".length());
        flow = new Flow();
        String adds = "(lmod(write(cons" + "(add 1".repeat(480) + " 1" + ")".repeat(480) + "l)))";
        CHECK.same("a deep sum", flow.take(inMain("", adds, "", 0)), 0);
        CHECK.same("its value", flow.outputAt(0), 481);
        flow = new Flow();
        String down = "(fun f((n int))int(if n(add 1(call f(sub n 1)))0))";
        CHECK.same("a deep run", flow.take(down + inMain("", "(lmod(write(cons(call f 700)l)))", "", 0)), 0);
        CHECK.same("its value", flow.outputAt(0), 700);
        CHECK.same("a run too deep", flow.take(inMain("", "(call main l)", "", 0)), 7);
    }

    private static void openedOnly(String opening, int count) {
        Flow flow = new Flow();
        String text = inMain(opening, "", "", count);
        text = text.substring(0, text.length() - 1);
        CHECK.same(opening + " " + count + " times", flow.take(text), 3);
        CHECK.same("its place", flow.lookAt(2), text.length());
    }
}
