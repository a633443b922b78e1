import java.util.List;

/** Promises 1, 2 and 4 to 12: what is held beside the program, and how it changes. */
public final class StateTests {
    private static final int MOST = Integer.MAX_VALUE;
    private static final int LEAST = Integer.MIN_VALUE;

    private static final String SAME = "(fun main((l lmod))lmod l)";
    private static final String MAP =
        "(chg m((l list))list(case l(write nil)(h t(write(cons(add(mul h 3)1)(memo map t))))))"
        + "(fun map((l lmod))lmod(lmod(read l x(jump m x))))(fun main((l lmod))lmod(call map l))";
    /** Does not end if an int of the input is 90 or more. */
    private static final String LOOP =
        "(chg d((l list))list(case l(write nil)(h t(if(less h 90)(write(cons h(memo lop t)))(jump d l)))))"
        + "(fun lop((l lmod))lmod(lmod(read l x(jump d x))))(fun main((l lmod))lmod(call lop l))";

    private static final Check CHECK = new Check();

    private StateTests() {
    }

    public static void main(String[] args) {
        newObject();
        giveText();
        tapeIsFull();
        insertAhead();
        replaceAt();
        deleteFrom();
        reverseFrom();
        fullBatch();
        dropBatch();
        applyWithoutProgram();
        applyWithProgram();
        applyRefused();
        takeProgramEmptiesBatch();
        outputAt();
        inputAt();
        lookAtSum();
        CHECK.same("NONE", LevelFlow.NONE, -1);
        CHECK.end("StateTests");
    }

    private static void newObject() {
        CHECK.edge(1, "nothing is there at first");
        Flow flow = new Flow();
        int[] due = {0, 0, -1, 0, 0, 0, 0, -1, -1, 0, 0};
        for (int which = 0; which < due.length; which++) {
            CHECK.same("new, lookAt(" + which + ")", flow.lookAt(which), due[which]);
        }
        for (int which : new int[] {-1, 11, 12, MOST, LEAST}) {
            CHECK.same("lookAt(" + which + ")", flow.lookAt(which), LevelFlow.NONE);
        }
        CHECK.noOutputAt(flow, 0);
        CHECK.noInputAt(flow, 0, false);
        CHECK.noInputAt(flow, 0, true);
    }

    private static void giveText() {
        CHECK.edge(2, "n bytes, 1 to 8, the highest first");
        Flow flow = new Flow();
        for (int n : new int[] {0, -1, 9, MOST, LEAST}) {
            CHECK.fails("giveText of " + n, flow.giveText(0x28L, n));
        }
        CHECK.same("tape behind refused ones", flow.lookAt(0), 0);
        CHECK.holds("one byte", flow.giveText(0x7777777777777728L, 1));
        CHECK.holds("two bytes", flow.giveText(0x7777777777776675L, 2));
        CHECK.same("tape of three", flow.lookAt(0), 3);
        CHECK.holds("rest", flow.give(SAME.substring(3)));
        CHECK.same("tape", flow.lookAt(0), SAME.length());
        CHECK.same("takes what was given in pieces", flow.takeProgram(), 0);
        CHECK.same("tape is empty", flow.lookAt(0), 0);
        CHECK.holds("a highest byte of 255", flow.giveText(-1L, 8));
        CHECK.same("255 is no token", flow.takeProgram(), 1);
        CHECK.same("its place", flow.lookAt(2), 0);
    }

    private static void tapeIsFull() {
        CHECK.edge(2, "there is no room");
        Flow flow = Flow.ofManyCalls();
        for (int k = 0; k < 1023; k++) {
            flow.giveText(0x2020202020202020L, 8);
        }
        CHECK.holds("7 more", flow.giveText(0x20202020202020L, 7));
        CHECK.same("nearly full", flow.lookAt(0), 8191);
        CHECK.fails("no room for 2", flow.giveText(0x2020L, 2));
        CHECK.same("still", flow.lookAt(0), 8191);
        CHECK.holds("room for 1", flow.giveText(0x20L, 1));
        CHECK.same("full", flow.lookAt(0), 8192);
        CHECK.fails("no room for 1", flow.giveText(0x20L, 1));
        CHECK.same("no definition", flow.takeProgram(), 4);
        CHECK.same("the text's length", flow.lookAt(2), 8192);
        CHECK.holds("room again", flow.giveText(0x20L, 1));
    }

    private static void insertAhead() {
        CHECK.edge(4, "places 0 to the length");
        Flow flow = new Flow();
        CHECK.fails("no place 1", flow.insertAhead(1, 7));
        CHECK.fails("no place -1", flow.insertAhead(-1, 7));
        CHECK.holds("at 0", flow.insertAhead(0, 7));
        CHECK.holds("behind", flow.insertAhead(1, 9));
        CHECK.holds("between", flow.insertAhead(1, LEAST));
        CHECK.holds("ahead", flow.insertAhead(0, MOST));
        CHECK.fails("no place 5", flow.insertAhead(5, 7));
        CHECK.fails("no such place", flow.insertAhead(MOST, 7));
        CHECK.list("draft", flow.input(true), List.of(MOST, 7, LEAST, 9));
        CHECK.list("input", flow.input(false), List.of());
        CHECK.same("edits", flow.lookAt(6), 4);
        sixtyFour();
    }

    private static void sixtyFour() {
        CHECK.edge(4, "the draft has 64");
        Flow flow = new Flow();
        for (int i = 0; i < 64; i++) {
            if (i == 32) {
                flow.applyBatch();
            }
            CHECK.holds("int " + i, flow.insertAhead(i, i));
        }
        flow.applyBatch();
        CHECK.same("all", flow.lookAt(4), 64);
        CHECK.fails("no room behind", flow.insertAhead(64, 1));
        CHECK.fails("no room ahead", flow.insertAhead(0, 1));
        CHECK.holds("one goes", flow.deleteFrom(3, 1));
        CHECK.holds("room for one", flow.insertAhead(63, 1));
        CHECK.same("place 62", flow.inputAt(62, true), 63);
        CHECK.same("place 63", flow.inputAt(63, true), 1);
        CHECK.same("place 3", flow.inputAt(3, true), 4);
    }

    private static void replaceAt() {
        CHECK.edge(5, "there is an int at the place, or none");
        Flow flow = new Flow();
        CHECK.fails("none at 0", flow.replaceAt(0, 1));
        flow.feed(1, 2, 3);
        CHECK.fails("none at 3", flow.replaceAt(3, 1));
        CHECK.fails("none at -1", flow.replaceAt(-1, 1));
        CHECK.fails("none far off", flow.replaceAt(MOST, 1));
        CHECK.holds("the last one", flow.replaceAt(2, -3));
        CHECK.holds("by itself", flow.replaceAt(0, 1));
        CHECK.same("edits", flow.lookAt(6), 2);
        CHECK.list("draft", flow.input(true), List.of(1, 2, -3));
        CHECK.list("input", flow.input(false), List.of(1, 2, 3));
    }

    private static void deleteFrom() {
        CHECK.edge(6, "n ints go, or there are not so many");
        Flow flow = new Flow();
        CHECK.fails("none there", flow.deleteFrom(0, 1));
        flow.feed(1, 2, 3, 4, 5);
        int[][] refused = {{0, 0}, {0, -1}, {0, 6}, {5, 1}, {4, 2}, {-1, 1}, {-1, 3}, {6, -1}, {5, 0},
            {1, MOST}, {MOST, 1}, {MOST, MOST}, {LEAST, 1}, {LEAST, MOST}, {0, LEAST}, {LEAST, LEAST}};
        for (int[] r : refused) {
            CHECK.fails("deleteFrom(" + r[0] + ", " + r[1] + ")", flow.deleteFrom(r[0], r[1]));
        }
        CHECK.same("no edits", flow.lookAt(6), 0);
        CHECK.holds("two from 1", flow.deleteFrom(1, 2));
        CHECK.list("draft", flow.input(true), List.of(1, 4, 5));
        CHECK.holds("the last one", flow.deleteFrom(2, 1));
        CHECK.holds("all", flow.deleteFrom(0, 2));
        CHECK.list("empty draft", flow.input(true), List.of());
        CHECK.same("edits", flow.lookAt(6), 3);
        CHECK.same("input", flow.lookAt(4), 5);
    }

    private static void reverseFrom() {
        CHECK.edge(7, "n ints are turned about, or there are not so many");
        Flow flow = new Flow();
        CHECK.fails("none there", flow.reverseFrom(0, 2));
        flow.feed(1, 2, 3, 4, 5);
        int[][] refused = {{0, 1}, {0, 0}, {0, -2}, {0, 6}, {4, 2}, {5, 2}, {-1, 2}, {-1, 3}, {7, -2},
            {1, MOST}, {MOST, 2}, {MOST, MOST}, {LEAST, 2}, {LEAST, LEAST}, {0, LEAST}};
        for (int[] r : refused) {
            CHECK.fails("reverseFrom(" + r[0] + ", " + r[1] + ")", flow.reverseFrom(r[0], r[1]));
        }
        CHECK.same("no edits", flow.lookAt(6), 0);
        CHECK.holds("all", flow.reverseFrom(0, 5));
        CHECK.list("turned", flow.input(true), List.of(5, 4, 3, 2, 1));
        CHECK.holds("the last two", flow.reverseFrom(3, 2));
        CHECK.holds("three inside", flow.reverseFrom(1, 3));
        CHECK.list("draft", flow.input(true), List.of(5, 1, 3, 4, 2));
        CHECK.same("edits", flow.lookAt(6), 3);
    }

    private static void fullBatch() {
        CHECK.edge(4, "and 5 to 7: the batch has 32");
        Flow flow = new Flow();
        flow.feed(1, 2, 3);
        for (int k = 0; k < 32; k++) {
            CHECK.holds("edit " + k, flow.replaceAt(0, 1));
        }
        CHECK.same("32 edits", flow.lookAt(6), 32);
        CHECK.fails("insert", flow.insertAhead(0, 1));
        CHECK.fails("replace", flow.replaceAt(0, 9));
        CHECK.fails("delete", flow.deleteFrom(0, 1));
        CHECK.fails("reverse", flow.reverseFrom(0, 2));
        CHECK.list("draft", flow.input(true), List.of(1, 2, 3));
        flow.applyBatch();
        CHECK.holds("again", flow.insertAhead(0, 1));
    }

    private static void dropBatch() {
        CHECK.edge(8, "the batch is empty again");
        Flow flow = new Flow();
        flow.feed(1, 2, 3);
        flow.insertAhead(0, 9);
        flow.reverseFrom(0, 4);
        flow.dropBatch();
        CHECK.same("no edits", flow.lookAt(6), 0);
        CHECK.list("draft is input", flow.input(true), List.of(1, 2, 3));
        flow.dropBatch();
        CHECK.list("again", flow.input(true), List.of(1, 2, 3));
    }

    private static void applyWithoutProgram() {
        CHECK.edge(9, "there is no program");
        Flow flow = new Flow();
        CHECK.same("empty one", flow.applyBatch(), LevelFlow.NONE);
        flow.insertAhead(0, 4);
        CHECK.same("one edit", flow.applyBatch(), LevelFlow.NONE);
        CHECK.list("input", flow.input(false), List.of(4));
        CHECK.list("draft", flow.input(true), List.of(4));
        CHECK.same("batch", flow.lookAt(6), 0);
        CHECK.same("applied to a program", flow.lookAt(9), 0);
        CHECK.same("output", flow.lookAt(7), LevelFlow.NONE);
        CHECK.same("steps", flow.lookAt(8), LevelFlow.NONE);
        CHECK.same("sum", flow.lookAt(10), 0);
    }

    private static void applyWithProgram() {
        CHECK.edge(9, "the batch is applied");
        Flow flow = new Flow();
        CHECK.same("map", flow.take(MAP), 0);
        CHECK.same("steps over nothing", flow.lookAt(8), 11);
        CHECK.same("empty batch", flow.applyBatch(), 0);
        flow.insertAhead(0, 5);
        flow.insertAhead(1, -7);
        CHECK.same("two ints", flow.applyBatch(), 2);
        CHECK.output("map", flow, 16, -20);
        CHECK.same("steps", flow.lookAt(8), 43);
        CHECK.same("sum", flow.lookAt(10), -4);
        CHECK.same("applied", flow.lookAt(9), 2);
        flow.reverseFrom(0, 2);
        CHECK.output("before the batch is applied", flow, 16, -20);
        CHECK.same("turned", flow.applyBatch(), 2);
        CHECK.output("turned", flow, -20, 16);
        CHECK.same("an empty batch counts", flow.applyBatch(), 2);
        CHECK.same("applied", flow.lookAt(9), 4);
        CHECK.same("another program", flow.take(SAME), 0);
        CHECK.same("applied in all", flow.lookAt(9), 4);
        CHECK.output("same", flow, -7, 5);
        CHECK.same("one step", flow.lookAt(8), 1);
        CHECK.same("all go", flow.feed(), 0);
        CHECK.same("no ints", flow.lookAt(7), 0);
    }

    private static void applyRefused() {
        CHECK.edge(9, "a run would take more than 6000 steps");
        Flow flow = new Flow();
        flow.feed(5);
        CHECK.same("loop", flow.take(LOOP), 0);
        CHECK.same("steps", flow.lookAt(8), 27);
        flow.insertAhead(1, 95);
        CHECK.same("refused", flow.applyBatch(), -7);
        CHECK.same("refused again", flow.applyBatch(), -7);
        CHECK.list("input", flow.input(false), List.of(5));
        CHECK.list("draft", flow.input(true), List.of(5, 95));
        CHECK.same("batch", flow.lookAt(6), 1);
        CHECK.same("steps stay", flow.lookAt(8), 27);
        CHECK.same("not applied", flow.lookAt(9), 0);
        CHECK.same("no fault of a text", flow.lookAt(1), 0);
        CHECK.output("stays", flow, 5);
        flow.replaceAt(1, 7);
        CHECK.same("mended", flow.applyBatch(), 2);
        CHECK.output("mended", flow, 5, 7);
        CHECK.same("steps of two", flow.lookAt(8), 43);
        CHECK.same("applied", flow.lookAt(9), 1);
    }

    private static void takeProgramEmptiesBatch() {
        CHECK.edge(3, "tape and batch are empty, whatever it answers");
        Flow flow = new Flow();
        flow.feed(5);
        flow.insertAhead(0, 6);
        CHECK.same("taken over the input", flow.take(SAME), 0);
        CHECK.output("the input's", flow, 5);
        CHECK.same("batch", flow.lookAt(6), 0);
        CHECK.list("draft", flow.input(true), List.of(5));
        flow.insertAhead(0, 6);
        CHECK.same("a fault", flow.take("(fun"), 3);
        CHECK.same("batch behind a fault", flow.lookAt(6), 0);
        CHECK.list("draft behind a fault", flow.input(true), List.of(5));
        flow.insertAhead(0, 6);
        String endless = "(fun f((l lmod))lmod(call f l))(fun main((l lmod))lmod(call f l))";
        CHECK.same("too long", flow.take(endless), 7);
        CHECK.same("batch behind 7", flow.lookAt(6), 0);
        CHECK.same("tape behind 7", flow.lookAt(0), 0);
        CHECK.same("the program before", flow.lookAt(3), 1);
        CHECK.output("its output", flow, 5);
        CHECK.same("its steps", flow.lookAt(8), 1);
        flow.feed(8, 9);
        CHECK.output("it goes on", flow, 8, 9);
    }

    private static void outputAt() {
        CHECK.edge(10, "an int of the output, or none");
        Flow flow = new Flow();
        flow.take(SAME);
        CHECK.noOutputAt(flow, 0);
        flow.feed(3, 4);
        CHECK.same("0", flow.outputAt(0), 3);
        CHECK.same("1", flow.outputAt(1), 4);
        for (int i : new int[] {2, -1, MOST, LEAST}) {
            CHECK.noOutputAt(flow, i);
        }
    }

    private static void inputAt() {
        CHECK.edge(11, "an int of the input or the draft, or none");
        Flow flow = new Flow();
        flow.feed(3, 4);
        flow.insertAhead(0, 8);
        CHECK.same("input", flow.inputAt(0, false), 3);
        CHECK.same("draft", flow.inputAt(0, true), 8);
        CHECK.same("end of the draft", flow.inputAt(2, true), 4);
        CHECK.noInputAt(flow, 2, false);
        for (int i : new int[] {3, -1, MOST, LEAST}) {
            CHECK.noInputAt(flow, i, true);
            CHECK.noInputAt(flow, i, false);
        }
    }

    private static void lookAtSum() {
        CHECK.edge(12, "10: the sum modulo 2^32");
        Flow flow = new Flow();
        flow.take(SAME);
        flow.feed(MOST, 1);
        CHECK.same("the sum goes round", flow.lookAt(10), LEAST);
        flow.feed(LEAST, LEAST, 5);
        CHECK.same("twice 2^31 is 0", flow.lookAt(10), 5);
    }
}
