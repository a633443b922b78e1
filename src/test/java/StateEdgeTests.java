/** Promises 1, 2 and 9 to 12, one case for each edge that the document names. */
public final class StateEdgeTests {
    private static final int MOST = Integer.MAX_VALUE;
    private static final int LEAST = Integer.MIN_VALUE;
    private static final int NONE = LevelFlow.NONE;

    /** 26 bytes, one step. */
    private static final String SAME = "(fun main((l lmod))lmod l)";
    /** Writes nil, in 6 n + 11 steps over an input that begins with n, in 8 over none. Has no end over -1. */
    private static final String COUNT =
        "(chg d((n int))list(if n(jump d(sub n 1))(write nil)))"
        + "(fun main((l lmod))lmod(lmod(read l x(case x(write(call e))(h t(jump d h))))))";
    private static final String COUNTING = "(fun e()list nil)" + COUNT;
    private static final String ENDLESS = "(fun main((l lmod))lmod(call main l))";

    private static final Check CHECK = new Check();

    private StateEdgeTests() {
    }

    public static void main(String[] args) {
        CHECK.edge(12, "the constant NONE");
        CHECK.same("NONE", NONE, -1);
        newTape();
        newProgram();
        newInput();
        newFault();
        newBesideAnother();
        giveTooFew();
        giveTooMany();
        giveEachNumber();
        giveHighestFirst();
        giveLowestOnly();
        giveAllThatCallsCan();
        giveWithoutRoom();
        giveToTheLastByte();
        giveAgainBehindTake();
        applyNothingWithoutProgram();
        applyWithoutProgram();
        applyWithoutProgramBehindFault();
        applyEmptyBatch();
        applyFullBatch();
        applyToEmptyInput();
        applyLimit();
        applyRefusedKeepsAll();
        applyRefusedFullBatch();
        applyRefusedIsMended();
        outputOfNone();
        outputBounds();
        outputOfLast();
        inputOfNone();
        inputBounds();
        inputOrDraft();
        lookAtOther();
        lookAtTape();
        lookAtFault();
        lookAtDefinitions();
        lookAtInts();
        lookAtOutput();
        lookAtBatches();
        lookAtSum();
        refusedCallsChangeNothing();
        lastCall();
        CHECK.end("StateEdgeTests");
    }

    private static Flow with(int... ints) {
        Flow flow = new Flow();
        flow.feed(ints);
        return flow;
    }

    private static Flow running(String text, int... ints) {
        Flow flow = with(ints);
        CHECK.same("taken", flow.take(text), 0);
        return flow;
    }

    private static int[] filled(int count, int v) {
        int[] ints = new int[count];
        java.util.Arrays.fill(ints, v);
        return ints;
    }

    // Promise 1

    private static void newTape() {
        CHECK.edge(1, "no TAPE");
        Flow flow = new Flow();
        CHECK.same("bytes", flow.lookAt(0), 0);
        CHECK.same("a text without a DEFINITION", flow.takeProgram(), 4);
        CHECK.same("its length", flow.lookAt(2), 0);
    }

    private static void newProgram() {
        CHECK.edge(1, "no PROGRAM");
        Flow flow = new Flow();
        CHECK.same("DEFINITIONS", flow.lookAt(3), 0);
        CHECK.same("ints of the OUTPUT", flow.lookAt(7), NONE);
        CHECK.same("STEPS", flow.lookAt(8), NONE);
        CHECK.same("sum", flow.lookAt(10), 0);
        CHECK.noOutputAt(flow, 0);
        CHECK.same("applyBatch", flow.applyBatch(), NONE);
    }

    private static void newInput() {
        CHECK.edge(1, "the INPUT is empty, and the DRAFT and the BATCH");
        Flow flow = new Flow();
        CHECK.same("ints of the INPUT", flow.lookAt(4), 0);
        CHECK.same("ints of the DRAFT", flow.lookAt(5), 0);
        CHECK.same("EDITS", flow.lookAt(6), 0);
        CHECK.same("BATCHES", flow.lookAt(9), 0);
        CHECK.noInputAt(flow, 0, false);
        CHECK.noInputAt(flow, 0, true);
        CHECK.same("taken over it", flow.take(SAME), 0);
        CHECK.same("ints of the OUTPUT", flow.lookAt(7), 0);
    }

    private static void newFault() {
        CHECK.edge(1, "no fault at first");
        Flow flow = new Flow();
        CHECK.same("fault", flow.lookAt(1), 0);
        CHECK.same("place", flow.lookAt(2), NONE);
    }

    private static void newBesideAnother() {
        CHECK.edge(1, "a new object has nothing of another one");
        String fresh = new Flow().state();
        Flow flow = running(SAME, 1, 2);
        flow.applyBatch();
        flow.insertAhead(0, 5);
        flow.take("(");
        flow.give("abc");
        String before = flow.state();
        Flow other = new Flow();
        CHECK.same("the new one", other.state(), fresh);
        other.feed(7, 8, 9);
        other.take(COUNTING);
        other.give("de");
        CHECK.same("the old one", flow.state(), before);
    }

    // Promise 2

    private static void giveTooFew() {
        CHECK.edge(2, "n is below 1");
        for (int n : new int[] {0, -1, -7, -8, -9, LEAST, LEAST + 1, LEAST + 8}) {
            refusesBytes(n);
        }
    }

    private static void giveTooMany() {
        CHECK.edge(2, "n is above 8");
        for (int n : new int[] {9, 10, 16, 64, 256, 257, 264, 65537, MOST, MOST - 1}) {
            refusesBytes(n);
        }
    }

    /** In the middle of a text, which is taken behind the refused call. */
    private static void refusesBytes(int n) {
        Flow flow = new Flow();
        CHECK.fails("giveText of " + n + " to an empty tape", flow.giveText(0x2828282828282828L, n));
        CHECK.same("no bytes", flow.lookAt(0), 0);
        flow.give(SAME.substring(0, 11));
        CHECK.fails("giveText of " + n, flow.giveText(0x2323232323232323L, n));
        CHECK.same("11 bytes", flow.lookAt(0), 11);
        flow.give(SAME.substring(11));
        CHECK.same("taken", flow.takeProgram(), 0);
    }

    private static void giveEachNumber() {
        CHECK.edge(2, "n bytes, 1 .. 8");
        for (int n = 1; n <= 8; n++) {
            Flow flow = new Flow();
            int bytes = 0;
            for (int from = 0; from < SAME.length(); from += n) {
                CHECK.holds("giveText of " + n, flow.giveText(piece(SAME, from, n), n));
                bytes += n;
                CHECK.same("bytes", flow.lookAt(0), bytes);
            }
            CHECK.same("taken in pieces of " + n, flow.takeProgram(), 0);
        }
    }

    /** The bytes above are #, which are no part of the text; blanks stand behind the text's end. */
    private static long piece(String text, int from, int n) {
        long v = 0x2323232323232323L;
        for (int k = from; k < from + n; k++) {
            v = v << 8 | (k < text.length() ? text.charAt(k) : ' ');
        }
        return v;
    }

    private static void giveHighestFirst() {
        CHECK.edge(2, "the highest first");
        for (int n = 2; n <= 8; n++) {
            for (int place = 0; place < n; place++) {
                Flow flow = new Flow();
                long blanks = 0x2020202020202020L;
                int shift = 8 * (n - 1 - place);
                flow.giveText(blanks & ~(0xffL << shift) | 0x23L << shift, n);
                CHECK.same("a # among " + n + " bytes", flow.takeProgram(), 1);
                CHECK.same("its place", flow.lookAt(2), place);
            }
        }
    }

    private static void giveLowestOnly() {
        CHECK.edge(2, "of its lowest n, each a byte from 0 to 255");
        Flow flow = new Flow();
        CHECK.holds("7 blanks below a byte of 128", flow.giveText(0x8020202020202020L, 7));
        CHECK.same("no DEFINITION", flow.takeProgram(), 4);
        CHECK.same("7 bytes", flow.lookAt(2), 7);
        CHECK.holds("all 8", flow.giveText(0x8020202020202020L, 8));
        CHECK.same("128 belongs to no TOKEN", flow.takeProgram(), 1);
        CHECK.same("its place", flow.lookAt(2), 0);
        CHECK.holds("-1, of 8", flow.giveText(-1L, 8));
        CHECK.same("255 belongs to no TOKEN", flow.takeProgram(), 1);
        CHECK.holds("the lowest of the least long", flow.giveText(Long.MIN_VALUE, 1));
        CHECK.same("0 belongs to no TOKEN", flow.takeProgram(), 1);
        CHECK.holds("a ( with all bits above", flow.giveText(-256L | '(', 1));
        CHECK.same("the text ends", flow.takeProgram(), 3);
        CHECK.same("its place", flow.lookAt(2), 1);
        CHECK.holds("a ( with a bit above", flow.giveText(256L | '(', 1));
        CHECK.same("the text ends", flow.takeProgram(), 3);
    }

    private static void giveAllThatCallsCan() {
        CHECK.edge(2, "511 calls, 8 bytes each, find room");
        Flow flow = new Flow();
        for (int k = 0; k < 510; k++) {
            CHECK.holds("call " + (k + 1), flow.giveText(0x2020202020202020L, 8));
        }
        CHECK.holds("a ( ends the text", flow.giveText(0x2020202020202028L, 8));
        CHECK.same("fault", flow.takeProgram(), 3);
        flow = new Flow();
        for (int k = 0; k < 510; k++) {
            flow.giveText(0x2020202020202020L, 8);
        }
        CHECK.same("fault", flow.takeProgram(), 4);
        CHECK.same("place", flow.lookAt(2), 4080);
    }

    /** The text, then blanks, so that there are so many bytes. */
    private static Flow filledTape(String text, int bytes) {
        Flow flow = Flow.ofManyCalls();
        flow.give(text);
        flow.give(" ".repeat(bytes - text.length()));
        CHECK.same("bytes", flow.lookAt(0), bytes);
        return flow;
    }

    private static void giveWithoutRoom() {
        CHECK.edge(2, "there is no room");
        for (int room = 0; room < 8; room++) {
            Flow flow = filledTape(SAME, 8192 - room);
            for (int n = room + 1; n <= 8; n++) {
                CHECK.fails(n + " bytes with room for " + room, flow.giveText(0x2323232323232323L, n));
            }
            CHECK.same("bytes", flow.lookAt(0), 8192 - room);
            if (room > 0) {
                CHECK.holds("as many as there is room for", flow.giveText(0x2020202020202020L, room));
            }
            CHECK.same("full", flow.lookAt(0), 8192);
            CHECK.fails("0 bytes to a full tape", flow.giveText(0x20L, 0));
            CHECK.fails("one more", flow.giveText(0x20L, 1));
            CHECK.same("taken without what was refused", flow.takeProgram(), 0);
        }
    }

    private static void giveToTheLastByte() {
        CHECK.edge(2, "the tape has 8192 bytes, and the last one counts");
        Flow flow = filledTape("", 8192 - SAME.length());
        flow.give(SAME);
        CHECK.same("full", flow.lookAt(0), 8192);
        CHECK.same("a PROGRAM at its end", flow.takeProgram(), 0);
        flow = filledTape(SAME, 8191);
        flow.give("#");
        CHECK.same("a # at its end", flow.takeProgram(), 1);
        CHECK.same("its place", flow.lookAt(2), 8191);
        flow = filledTape(SAME, 8191);
        flow.give("(");
        CHECK.same("a ( at its end", flow.takeProgram(), 3);
        CHECK.same("its place", flow.lookAt(2), 8192);
        flow = filledTape("", 8192);
        CHECK.same("blanks alone", flow.takeProgram(), 4);
        CHECK.same("the text's length", flow.lookAt(2), 8192);
    }

    private static void giveAgainBehindTake() {
        CHECK.edge(2, "a full tape that was taken has room again");
        Flow flow = filledTape("(", 8192);
        CHECK.same("taken", flow.takeProgram(), 3);
        CHECK.same("empty", flow.lookAt(0), 0);
        CHECK.same("a PROGRAM with nothing of the text before", flow.take(SAME), 0);
    }

    // Promise 9

    private static void applyNothingWithoutProgram() {
        CHECK.edge(9, "NONE if there is no PROGRAM, with an empty BATCH");
        Flow flow = new Flow();
        String before = flow.state();
        CHECK.same("applyBatch", flow.applyBatch(), NONE);
        CHECK.same("all is as before", flow.state(), before);
    }

    private static void applyWithoutProgram() {
        CHECK.edge(9, "without a PROGRAM the INPUT is the DRAFT then, and the BATCH empty");
        Flow flow = with(1, 2);
        for (int k = 0; k < 31; k++) {
            flow.replaceAt(0, k);
        }
        flow.insertAhead(2, 9);
        CHECK.same("32 edits", flow.lookAt(6), 32);
        CHECK.same("applyBatch", flow.applyBatch(), NONE);
        CHECK.input("the DRAFT", flow, 30, 2, 9);
        CHECK.draft("as it was", flow, 30, 2, 9);
        CHECK.same("no edits", flow.lookAt(6), 0);
        CHECK.same("not applied to a PROGRAM", flow.lookAt(9), 0);
        CHECK.same("no OUTPUT", flow.lookAt(7), NONE);
        CHECK.same("no STEPS", flow.lookAt(8), NONE);
        CHECK.same("a PROGRAM over it", flow.take(SAME), 0);
        CHECK.output("the INPUT", flow, 30, 2, 9);
        CHECK.same("still none", flow.lookAt(9), 0);
    }

    private static void applyWithoutProgramBehindFault() {
        CHECK.edge(9, "there is no PROGRAM behind a fault, or 7");
        Flow flow = new Flow();
        CHECK.same("a fault", flow.take("(fun main((l lmod))lmod x)"), 5);
        flow.insertAhead(0, 4);
        CHECK.same("applyBatch behind 5", flow.applyBatch(), NONE);
        CHECK.same("7", flow.take(ENDLESS), 7);
        flow.insertAhead(0, 3);
        CHECK.same("applyBatch behind 7", flow.applyBatch(), NONE);
        CHECK.input("the DRAFT", flow, 3, 4);
        CHECK.same("no OUTPUT", flow.lookAt(7), NONE);
        CHECK.same("no batches", flow.lookAt(9), 0);
    }

    private static void applyEmptyBatch() {
        CHECK.edge(9, "an empty BATCH is applied, too");
        Flow flow = running(SAME, 4, 5);
        CHECK.same("how many ints", flow.applyBatch(), 2);
        CHECK.same("batches", flow.lookAt(9), 1);
        CHECK.same("once more", flow.applyBatch(), 2);
        CHECK.same("batches", flow.lookAt(9), 2);
        CHECK.output("as it was", flow, 4, 5);
        CHECK.same("steps", flow.lookAt(8), 1);
    }

    private static void applyFullBatch() {
        CHECK.edge(9, "a BATCH of 32, an INPUT of 64");
        Flow flow = running(SAME, filled(32, 5));
        for (int k = 0; k < 32; k++) {
            flow.insertAhead(32, 100 + k);
        }
        CHECK.same("edits", flow.lookAt(6), 32);
        CHECK.same("before", flow.lookAt(7), 32);
        CHECK.same("how many ints", flow.applyBatch(), 64);
        CHECK.same("edits behind it", flow.lookAt(6), 0);
        CHECK.same("ints of the INPUT", flow.lookAt(4), 64);
        CHECK.same("one BATCH", flow.lookAt(9), 1);
        for (int i = 0; i < 64; i++) {
            CHECK.same("int " + i, flow.outputAt(i), i < 32 ? 5 : 163 - i);
        }
    }

    private static void applyToEmptyInput() {
        CHECK.edge(9, "an OUTPUT without ints is 0, not NONE");
        Flow flow = running(SAME, 4, 5);
        flow.deleteFrom(0, 2);
        CHECK.same("how many ints", flow.applyBatch(), 0);
        CHECK.same("ints of the OUTPUT", flow.lookAt(7), 0);
        CHECK.same("ints of the INPUT", flow.lookAt(4), 0);
        CHECK.same("steps", flow.lookAt(8), 1);
        CHECK.same("sum", flow.lookAt(10), 0);
        CHECK.noOutputAt(flow, 0);
        CHECK.same("an empty BATCH over an empty INPUT", flow.applyBatch(), 0);
    }

    private static void applyLimit() {
        CHECK.edge(9, "6000 STEPS are no more than LIMIT, 6001 are");
        String calls = "(fun e()list nil)(fun f()list(call e))(fun g()list(call f))(fun h()list(call g))";
        String[] ends = {"nil", "(call e)", "(call f)", "(call g)", "(call h)"};
        for (int more = 0; more < ends.length; more++) {
            String text = calls + COUNT.replace("(write nil)", "(write " + ends[more] + ")");
            Flow flow = running(text);
            CHECK.same("steps over nothing", flow.lookAt(8), 8);
            flow.insertAhead(0, 997);
            CHECK.same("5993 and " + more, flow.applyBatch(), 0);
            CHECK.same("steps", flow.lookAt(8), 5993 + more);
            flow.replaceAt(0, 998);
            int steps = 5999 + more;
            CHECK.same(steps + " steps", flow.applyBatch(), steps <= 6000 ? 0 : -7);
            CHECK.same("told", flow.lookAt(8), steps <= 6000 ? steps : 5993 + more);
            CHECK.same("input", flow.inputAt(0, false), steps <= 6000 ? 998 : 997);
            CHECK.same("batches", flow.lookAt(9), steps <= 6000 ? 2 : 1);
        }
    }

    private static void applyRefusedKeepsAll() {
        CHECK.edge(9, "-7: the BATCH stays, and all is as it was");
        for (int n : new int[] {999, -1, MOST, LEAST}) {
            Flow flow = running(COUNTING, 2, 3);
            flow.applyBatch();
            flow.give("(fun");
            flow.insertAhead(0, n);
            flow.deleteFrom(2, 1);
            String before = flow.state();
            CHECK.same("over " + n, flow.applyBatch(), -7);
            CHECK.same("all is as it was", flow.state(), before);
            CHECK.same("over " + n + " again", flow.applyBatch(), -7);
            CHECK.same("all is as it was", flow.state(), before);
            CHECK.draft("the BATCH stays", flow, n, 2);
            CHECK.input("the INPUT stays", flow, 2, 3);
            CHECK.same("steps", flow.lookAt(8), 23);
            CHECK.same("no fault of a text", flow.lookAt(1), 0);
            CHECK.same("one BATCH", flow.lookAt(9), 1);
        }
    }

    private static void applyRefusedFullBatch() {
        CHECK.edge(9, "-7: a BATCH of 32 stays full");
        Flow flow = running(COUNTING, 2);
        for (int k = 0; k < 32; k++) {
            flow.replaceAt(0, 1000 + k);
        }
        CHECK.same("refused", flow.applyBatch(), -7);
        CHECK.same("32 edits", flow.lookAt(6), 32);
        CHECK.fails("no 33rd", flow.replaceAt(0, 1));
        CHECK.draft("as it was", flow, 1031);
        flow.dropBatch();
        CHECK.holds("a new BATCH", flow.replaceAt(0, 1));
        CHECK.same("applied", flow.applyBatch(), 0);
        CHECK.same("steps", flow.lookAt(8), 17);
    }

    private static void applyRefusedIsMended() {
        CHECK.edge(9, "-7: further EDITS come to the BATCH that was refused");
        Flow flow = running(COUNTING, 2);
        flow.insertAhead(0, 999);
        CHECK.same("refused", flow.applyBatch(), -7);
        CHECK.holds("an EDIT of the DRAFT", flow.replaceAt(0, 1000));
        CHECK.same("two EDITS", flow.lookAt(6), 2);
        CHECK.same("refused again", flow.applyBatch(), -7);
        CHECK.holds("another EDIT", flow.replaceAt(0, 1));
        CHECK.same("applied", flow.applyBatch(), 0);
        CHECK.input("the DRAFT", flow, 1, 2);
        CHECK.same("steps", flow.lookAt(8), 17);
        CHECK.same("one BATCH", flow.lookAt(9), 1);
        CHECK.same("no EDITS", flow.lookAt(6), 0);
    }

    // Promise 10

    private static void outputOfNone() {
        CHECK.edge(10, "there is none without a PROGRAM, or of an empty OUTPUT");
        for (int i : new int[] {0, -1, 1, MOST, LEAST}) {
            CHECK.noOutputAt(new Flow(), i);
            CHECK.noOutputAt(with(1, 2), i);
            CHECK.noOutputAt(running(SAME), i);
            CHECK.noOutputAt(running(COUNTING, 2, 3), i);
        }
    }

    private static void outputBounds() {
        CHECK.edge(10, "there is none at this place");
        Flow flow = running(SAME, 6, 7, 8);
        String before = flow.state();
        for (int i : new int[] {3, -1, 4, 16, 64, MOST, LEAST, LEAST + 1, 65536}) {
            CHECK.noOutputAt(flow, i);
        }
        CHECK.same("all is as before", flow.state(), before);
        CHECK.same("first", flow.outputAt(0), 6);
        CHECK.same("last", flow.outputAt(2), 8);
        flow.feed(9);
        CHECK.same("the only one", flow.outputAt(0), 9);
        CHECK.noOutputAt(flow, 1);
        CHECK.noOutputAt(flow, 2);
    }

    private static void outputOfLast() {
        CHECK.edge(10, "the OUTPUT is that of the latest RUN, not of the DRAFT or a refused one");
        Flow flow = running(SAME, 1);
        flow.insertAhead(1, 2);
        CHECK.noOutputAt(flow, 1);
        CHECK.same("fault", flow.take("(fun"), 3);
        CHECK.same("behind a fault", flow.outputAt(0), 1);
        CHECK.same("7", flow.take(ENDLESS), 7);
        CHECK.same("behind 7", flow.outputAt(0), 1);
        CHECK.noOutputAt(flow, 1);
        CHECK.same("another PROGRAM", flow.take("(fun main((l lmod))lmod(lmod(write(cons 5 l))))"), 0);
        CHECK.output("its own", flow, 5, 1);
    }

    // Promise 11

    private static void inputOfNone() {
        CHECK.edge(11, "there is none of an empty INPUT or DRAFT");
        for (int i : new int[] {0, -1, 1, MOST, LEAST}) {
            CHECK.noInputAt(new Flow(), i, false);
            CHECK.noInputAt(new Flow(), i, true);
        }
        Flow flow = with(1, 2);
        flow.deleteFrom(0, 2);
        CHECK.noInputAt(flow, 0, true);
        CHECK.same("the INPUT has one", flow.inputAt(0, false), 1);
        flow.applyBatch();
        CHECK.noInputAt(flow, 0, false);
    }

    private static void inputBounds() {
        CHECK.edge(11, "there is none at this place");
        Flow flow = with(6, 7, 8);
        String before = flow.state();
        for (int i : new int[] {3, -1, 4, 16, 64, MOST, LEAST, LEAST + 1}) {
            CHECK.noInputAt(flow, i, false);
            CHECK.noInputAt(flow, i, true);
        }
        CHECK.same("all is as before", flow.state(), before);
        flow = with(filled(64, 3));
        CHECK.same("int 63 of 64", flow.inputAt(63, false), 3);
        CHECK.same("int 63 of 64 of the DRAFT", flow.inputAt(63, true), 3);
        CHECK.noInputAt(flow, 64, false);
        CHECK.noInputAt(flow, 64, true);
    }

    private static void inputOrDraft() {
        CHECK.edge(11, "of the DRAFT, if draft is so, else of the INPUT");
        Flow flow = with(1, 2);
        flow.insertAhead(0, 9);
        CHECK.same("INPUT", flow.inputAt(0, false), 1);
        CHECK.same("DRAFT", flow.inputAt(0, true), 9);
        CHECK.same("the DRAFT's last", flow.inputAt(2, true), 2);
        CHECK.noInputAt(flow, 2, false);
        flow.deleteFrom(0, 2);
        CHECK.same("INPUT", flow.inputAt(1, false), 2);
        CHECK.same("DRAFT", flow.inputAt(0, true), 2);
        CHECK.noInputAt(flow, 1, true);
        flow.applyBatch();
        CHECK.same("INPUT", flow.inputAt(0, false), 2);
        CHECK.noInputAt(flow, 1, false);
    }

    // Promise 12

    private static void lookAtOther() {
        CHECK.edge(12, "NONE for any other which");
        Flow flow = running(SAME, 1, 2);
        String before = flow.state();
        for (int which : new int[] {-1, 11, 12, -2, 16, 100, 256, 266, MOST, LEAST, -10}) {
            CHECK.same("lookAt(" + which + ")", flow.lookAt(which), NONE);
            CHECK.same("lookAt(" + which + ") of a new object", new Flow().lookAt(which), NONE);
        }
        CHECK.same("all is as before", flow.state(), before);
    }

    private static void lookAtTape() {
        CHECK.edge(12, "0: bytes of the TAPE");
        Flow flow = new Flow();
        flow.giveText(0x28L, 1);
        CHECK.same("one", flow.lookAt(0), 1);
        flow.giveText(0x28L, 8);
        CHECK.same("nine", flow.lookAt(0), 9);
        flow.applyBatch();
        flow.dropBatch();
        CHECK.same("batches leave it alone", flow.lookAt(0), 9);
        flow.takeProgram();
        CHECK.same("none", flow.lookAt(0), 0);
    }

    private static void lookAtFault() {
        CHECK.edge(12, "1 and 2: the latest fault, 0 without one, and its place, NONE without one, and for 7");
        Flow flow = new Flow();
        String[] texts = {SAME, " #", "  )", "   (", "", "(fun main((l lmod))lmod x)", "(fun main((l lmod))lmod 1)", ENDLESS};
        int[] places = {NONE, 1, 2, 4, 0, 24, 24, NONE};
        for (int first = 0; first < 8; first++) {
            CHECK.same("takeProgram", flow.take(texts[first]), first);
            CHECK.same("fault", flow.lookAt(1), first);
            CHECK.same("place", flow.lookAt(2), places[first]);
            flow.giveText(0x20L, 1);
            flow.applyBatch();
            flow.insertAhead(0, 1);
            flow.insertAhead(9, 1);
            flow.dropBatch();
            flow.giveText(0x20L, 9);
            CHECK.same("fault behind other calls", flow.lookAt(1), first);
            CHECK.same("place behind other calls", flow.lookAt(2), places[first]);
            flow.takeProgram();
        }
        for (int first = 7; first >= 0; first--) {
            CHECK.same("takeProgram", flow.take(texts[first]), first);
            CHECK.same("fault", flow.lookAt(1), first);
            CHECK.same("place", flow.lookAt(2), places[first]);
        }
    }

    private static void lookAtDefinitions() {
        CHECK.edge(12, "3: DEFINITIONS of the PROGRAM, 0 without one");
        Flow flow = new Flow();
        flow.take(SAME.replace("lmod l", "lmod x"));
        CHECK.same("none behind a fault", flow.lookAt(3), 0);
        flow.take(COUNTING);
        CHECK.same("three", flow.lookAt(3), 3);
        flow.take("(fun e()int 1)(fun f()int 2)(fun g()int 3)(fun h()int 4)(");
        CHECK.same("three behind a fault", flow.lookAt(3), 3);
        flow.take("(fun e()int 1)" + ENDLESS);
        CHECK.same("three behind 7", flow.lookAt(3), 3);
        flow.take(SAME);
        CHECK.same("one", flow.lookAt(3), 1);
    }

    private static void lookAtInts() {
        CHECK.edge(12, "4 to 6: ints of the INPUT and of the DRAFT, 0 to 64, EDITS, 0 to 32");
        Flow flow = new Flow();
        for (int k = 1; k <= 64; k++) {
            flow.insertAhead(0, k);
            int edits = k <= 32 ? k : k - 32;
            CHECK.same("DRAFT", flow.lookAt(5), k);
            CHECK.same("EDITS", flow.lookAt(6), edits);
            CHECK.same("INPUT", flow.lookAt(4), k <= 32 ? 0 : 32);
            if (edits == 32) {
                flow.applyBatch();
                CHECK.same("INPUT", flow.lookAt(4), k);
                CHECK.same("EDITS", flow.lookAt(6), 0);
            }
        }
    }

    private static void lookAtOutput() {
        CHECK.edge(12, "7 and 8: NONE without a PROGRAM, else ints of the OUTPUT and STEPS");
        Flow flow = with(3);
        CHECK.same("ints", flow.lookAt(7), NONE);
        CHECK.same("STEPS", flow.lookAt(8), NONE);
        flow.take("(fun main((l lmod))lmod x)");
        CHECK.same("ints behind a fault", flow.lookAt(7), NONE);
        CHECK.same("STEPS behind a fault", flow.lookAt(8), NONE);
        flow.take(ENDLESS);
        CHECK.same("ints behind 7", flow.lookAt(7), NONE);
        CHECK.same("STEPS behind 7", flow.lookAt(8), NONE);
        flow.take(SAME);
        CHECK.same("ints", flow.lookAt(7), 1);
        CHECK.same("STEPS", flow.lookAt(8), 1);
        flow.take(ENDLESS);
        CHECK.same("ints of the one before", flow.lookAt(7), 1);
        CHECK.same("STEPS of the one before", flow.lookAt(8), 1);
        flow.take(COUNTING);
        CHECK.same("no ints", flow.lookAt(7), 0);
        CHECK.same("STEPS", flow.lookAt(8), 29);
    }

    private static void lookAtBatches() {
        CHECK.edge(12, "9: BATCHES that were applied to a PROGRAM in all, empty ones, too, refused ones not");
        Flow flow = with(1);
        CHECK.same("without a PROGRAM", flow.lookAt(9), 0);
        flow.take(COUNTING);
        CHECK.same("none yet", flow.lookAt(9), 0);
        flow.applyBatch();
        CHECK.same("an empty one", flow.lookAt(9), 1);
        flow.replaceAt(0, -1);
        flow.applyBatch();
        CHECK.same("a refused one", flow.lookAt(9), 1);
        flow.dropBatch();
        CHECK.same("a dropped one", flow.lookAt(9), 1);
        flow.replaceAt(0, 2);
        flow.insertAhead(0, 2);
        flow.applyBatch();
        CHECK.same("one of two EDITS", flow.lookAt(9), 2);
        flow.take(SAME);
        CHECK.same("another PROGRAM", flow.lookAt(9), 2);
        flow.take("(");
        CHECK.same("a fault", flow.lookAt(9), 2);
        for (int k = 3; k < 300; k++) {
            flow.applyBatch();
        }
        flow.applyBatch();
        CHECK.same("300", flow.lookAt(9), 300);
    }

    private static void lookAtSum() {
        CHECK.edge(12, "10: the sum of the OUTPUT modulo 2^32, as an int, 0 without a PROGRAM");
        Flow flow = with(5, 6);
        CHECK.same("without a PROGRAM", flow.lookAt(10), 0);
        flow.take(SAME);
        CHECK.same("of two", flow.lookAt(10), 11);
        flow.feed();
        CHECK.same("of none", flow.lookAt(10), 0);
        flow.feed(MOST, 1);
        CHECK.same("above the most", flow.lookAt(10), LEAST);
        flow.feed(LEAST, -1);
        CHECK.same("below the least", flow.lookAt(10), MOST);
        flow.feed(LEAST, LEAST);
        CHECK.same("-2^32", flow.lookAt(10), 0);
        flow.feed(MOST, MOST, MOST, 5);
        CHECK.same("three times the most, and 5", flow.lookAt(10), MOST + 3);
        flow.insertAhead(0, 7);
        CHECK.same("not of the DRAFT", flow.lookAt(10), MOST + 3);
        flow.feed(filled(64, LEAST + 1));
        CHECK.same("64 ints", flow.lookAt(10), 64);
    }

    // What holds for all calls

    private static void refusedCallsChangeNothing() {
        CHECK.edge(12, "and 2 to 11: what answers false, NONE or a fault changes nothing but what is said");
        Flow flow = running(COUNTING, 2, 3);
        flow.applyBatch();
        flow.take("  #");
        flow.give(SAME.substring(0, 9));
        flow.insertAhead(0, -5);
        flow.insertAhead(0, 77);
        String before = flow.state();
        CHECK.same("the state", before, "9 1 2 3 2 4 2 0 23 1 0 [][2, 3][77, -5, 2, 3]");
        CHECK.fails("giveText", flow.giveText(0x23L, 0) || flow.giveText(0x23L, 9));
        CHECK.fails("insertAhead", flow.insertAhead(-1, 8) || flow.insertAhead(5, 8));
        CHECK.fails("replaceAt", flow.replaceAt(-1, 8) || flow.replaceAt(4, 8));
        CHECK.fails("deleteFrom", flow.deleteFrom(4, 1) || flow.deleteFrom(0, 0) || flow.deleteFrom(0, 5));
        CHECK.fails("reverseFrom", flow.reverseFrom(3, 2) || flow.reverseFrom(0, 1) || flow.reverseFrom(0, 5));
        CHECK.same("lookAt", flow.lookAt(11), NONE);
        CHECK.noOutputAt(flow, 0);
        CHECK.noInputAt(flow, 2, false);
        CHECK.noInputAt(flow, 4, true);
        CHECK.same("all is as before", flow.state(), before);
        flow.deleteFrom(0, 1);
        CHECK.same("-7", flow.applyBatch(), -7);
        CHECK.same("all is as before", flow.state(), "9 1 2 3 2 3 3 0 23 1 0 [][2, 3][-5, 2, 3]");
        flow.give(SAME.substring(9));
        CHECK.same("the text is whole", flow.takeProgram(), 0);
        CHECK.same("it is taken", flow.state(), "0 0 -1 1 2 2 0 2 1 1 5 [2, 3][2, 3][2, 3]");
    }

    private static void lastCall() {
        CHECK.edge(12, "the 512th call of an object is answered like all others");
        Flow flow = running(SAME, 1, 2);
        while (flow.callsLeft() > 2) {
            CHECK.same("applyBatch", flow.applyBatch(), 2);
        }
        CHECK.holds("call 511", flow.insertAhead(0, 0));
        CHECK.same("call 512", flow.applyBatch(), 3);
    }
}
