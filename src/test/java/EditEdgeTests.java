/** Promises 4 to 8, one case for each edge that the document names. */
public final class EditEdgeTests {
    private static final int MOST = Integer.MAX_VALUE;
    private static final int LEAST = Integer.MIN_VALUE;
    private static final int[] NO_INTS = {};

    private static final Check CHECK = new Check();

    private EditEdgeTests() {
    }

    public static void main(String[] args) {
        insertIntoNothing();
        insertBehindAll();
        insertAtNoPlace();
        insertAnyInt();
        insertIntoFullDraft();
        insertLooksAtDraft();
        insertIntoFullBatch();
        replaceFirstAndLast();
        replaceNone();
        replaceBySame();
        replaceLooksAtDraft();
        replaceInFullBatch();
        deleteTooFew();
        deleteAllFromThereOn();
        deleteTooMany();
        deleteAtNoPlace();
        deleteBeyondAllInts();
        deleteLooksAtDraft();
        deleteInFullBatch();
        reverseTooFew();
        reverseTwo();
        reverseAllFromThereOn();
        reverseTooMany();
        reverseAtNoPlace();
        reverseBeyondAllInts();
        reverseLooksAtDraft();
        reverseInFullBatch();
        batchOfThirtyTwo();
        refusedEditsAreNone();
        dropEmptyBatch();
        dropFullBatch();
        dropRefusedBatch();
        dropLeavesTheRest();
        CHECK.end("EditEdgeTests");
    }

    private static Flow with(int... ints) {
        Flow flow = new Flow();
        flow.feed(ints);
        return flow;
    }

    private static int[] upTo(int count) {
        int[] ints = new int[count];
        for (int k = 0; k < count; k++) {
            ints[k] = k;
        }
        return ints;
    }

    /** The input has these ints, the batch so many edits that have changed nothing. */
    private static Flow edited(int edits, int... ints) {
        Flow flow = with(ints);
        for (int k = 0; k < edits; k++) {
            CHECK.holds("edit " + (k + 1), flow.replaceAt(0, ints[0]));
        }
        return flow;
    }

    private static void refuses(Flow flow, String before, String call, boolean answer) {
        CHECK.fails(call, answer);
        CHECK.same("all is as before " + call, flow.state(), before);
    }

    private static void refusesInsert(Flow flow, int i) {
        refuses(flow, flow.state(), "insertAhead(" + i + ", 7)", flow.insertAhead(i, 7));
    }

    private static void refusesReplace(Flow flow, int i) {
        refuses(flow, flow.state(), "replaceAt(" + i + ", 7)", flow.replaceAt(i, 7));
    }

    private static void refusesDelete(Flow flow, int i, int n) {
        refuses(flow, flow.state(), "deleteFrom(" + i + ", " + n + ")", flow.deleteFrom(i, n));
    }

    private static void refusesReverse(Flow flow, int i, int n) {
        refuses(flow, flow.state(), "reverseFrom(" + i + ", " + n + ")", flow.reverseFrom(i, n));
    }

    // Promise 4

    private static void insertIntoNothing() {
        CHECK.edge(4, "place 0 of an empty draft");
        Flow flow = new Flow();
        CHECK.holds("insertAhead(0, 5)", flow.insertAhead(0, 5));
        CHECK.draft("one int", flow, 5);
        CHECK.same("an edit", flow.lookAt(6), 1);
        CHECK.same("the input is as it was", flow.lookAt(4), 0);
    }

    private static void insertBehindAll() {
        CHECK.edge(4, "places 0 .. its length are there");
        Flow flow = with(1, 2);
        CHECK.holds("insertAhead(2, 3)", flow.insertAhead(2, 3));
        CHECK.draft("behind all", flow, 1, 2, 3);
        CHECK.holds("insertAhead(0, 0)", flow.insertAhead(0, 0));
        CHECK.draft("ahead of all", flow, 0, 1, 2, 3);
        CHECK.holds("insertAhead(3, 9)", flow.insertAhead(3, 9));
        CHECK.draft("ahead of the last", flow, 0, 1, 2, 9, 3);
        CHECK.holds("insertAhead(1, 8)", flow.insertAhead(1, 8));
        CHECK.draft("ahead of the second", flow, 0, 8, 1, 2, 9, 3);
        CHECK.input("not yet applied", flow, 1, 2);
    }

    private static void insertAtNoPlace() {
        CHECK.edge(4, "there is no such place");
        for (int i : new int[] {1, -1, 2, 64, MOST, LEAST}) {
            refusesInsert(new Flow(), i);
        }
        for (int i : new int[] {3, -1, 4, 64, MOST, LEAST}) {
            refusesInsert(with(1, 2), i);
        }
        refusesInsert(with(upTo(63)), 64);
        refusesInsert(with(upTo(63)), -1);
    }

    private static void insertAnyInt() {
        CHECK.edge(4, "v is any int");
        Flow flow = new Flow();
        int[] ints = {LEAST, MOST, 0, -1, 1};
        for (int k = 0; k < ints.length; k++) {
            CHECK.holds("insertAhead of " + ints[k], flow.insertAhead(k, ints[k]));
        }
        CHECK.draft("as given", flow, LEAST, MOST, 0, -1, 1);
    }

    private static void insertIntoFullDraft() {
        CHECK.edge(4, "it has 64");
        Flow flow = with(upTo(63));
        CHECK.holds("the 64th", flow.insertAhead(63, 63));
        CHECK.same("64 in the draft", flow.lookAt(5), 64);
        CHECK.fails("a 65th behind all", flow.insertAhead(64, 64));
        CHECK.fails("a 65th ahead of all", flow.insertAhead(0, 64));
        CHECK.fails("a 65th between", flow.insertAhead(32, 64));
        CHECK.same("still 64", flow.lookAt(5), 64);
        CHECK.same("one edit", flow.lookAt(6), 1);
        for (int i = 0; i < 64; i++) {
            CHECK.same("int " + i, flow.inputAt(i, true), i);
        }
        flow.applyBatch();
        CHECK.same("64 in the input", flow.lookAt(4), 64);
        for (int i : new int[] {0, 1, 63, 64, 65, -1, MOST, LEAST}) {
            CHECK.fails("insertAhead(" + i + ", 7) with a new batch", flow.insertAhead(i, 7));
        }
        CHECK.same("no edit", flow.lookAt(6), 0);
    }

    private static void insertLooksAtDraft() {
        CHECK.edge(4, "place and room are those of the draft, not of the input");
        Flow flow = with(upTo(64));
        CHECK.holds("one goes", flow.deleteFrom(0, 1));
        CHECK.fails("no place 64 in a draft of 63", flow.insertAhead(64, 7));
        CHECK.holds("place 63", flow.insertAhead(63, 7));
        CHECK.fails("full again", flow.insertAhead(63, 7));
        flow = new Flow();
        CHECK.holds("place 0", flow.insertAhead(0, 1));
        CHECK.holds("place 1 of a draft of one", flow.insertAhead(1, 2));
        CHECK.draft("both", flow, 1, 2);
        flow = with(1, 2, 3);
        flow.deleteFrom(0, 3);
        refusesInsert(flow, 1);
    }

    private static void insertIntoFullBatch() {
        CHECK.edge(4, "the batch has 32");
        Flow flow = edited(31, 4, 5);
        CHECK.holds("the 32nd edit", flow.insertAhead(0, 3));
        CHECK.draft("done", flow, 3, 4, 5);
        refusesInsert(flow, 0);
        refusesInsert(flow, 3);
        refusesInsert(flow, 4);
    }

    // Promise 5

    private static void replaceFirstAndLast() {
        CHECK.edge(5, "the first and the last int, any int");
        Flow flow = with(1, 2, 3);
        CHECK.holds("replaceAt(0)", flow.replaceAt(0, LEAST));
        CHECK.holds("replaceAt(2)", flow.replaceAt(2, MOST));
        CHECK.draft("done", flow, LEAST, 2, MOST);
        CHECK.input("not yet applied", flow, 1, 2, 3);
        flow = with(upTo(64));
        CHECK.holds("replaceAt(63)", flow.replaceAt(63, -5));
        CHECK.same("the 64th", flow.inputAt(63, true), -5);
        CHECK.same("the 63rd", flow.inputAt(62, true), 62);
    }

    private static void replaceNone() {
        CHECK.edge(5, "there is none at the place");
        for (int i : new int[] {0, -1, 1, MOST, LEAST}) {
            refusesReplace(new Flow(), i);
        }
        for (int i : new int[] {3, -1, 4, 64, MOST, LEAST}) {
            refusesReplace(with(1, 2, 3), i);
        }
        Flow flow = with(upTo(64));
        CHECK.fails("replaceAt(64) of 64", flow.replaceAt(64, 7));
        CHECK.same("no edit", flow.lookAt(6), 0);
    }

    private static void replaceBySame() {
        CHECK.edge(5, "also if it is v");
        Flow flow = with(6);
        CHECK.holds("replaceAt(0, 6)", flow.replaceAt(0, 6));
        CHECK.same("an edit", flow.lookAt(6), 1);
        CHECK.draft("as it was", flow, 6);
        CHECK.holds("once more", flow.replaceAt(0, 6));
        CHECK.same("another edit", flow.lookAt(6), 2);
    }

    private static void replaceLooksAtDraft() {
        CHECK.edge(5, "the place is one of the draft, not of the input");
        Flow flow = with(1, 2, 3);
        flow.deleteFrom(1, 2);
        refusesReplace(flow, 1);
        refusesReplace(flow, 2);
        CHECK.holds("place 0", flow.replaceAt(0, 9));
        flow.insertAhead(1, 8);
        CHECK.holds("place 1 is there again", flow.replaceAt(1, 7));
        CHECK.draft("done", flow, 9, 7);
    }

    private static void replaceInFullBatch() {
        CHECK.edge(5, "the batch has 32");
        Flow flow = edited(31, 4, 5);
        CHECK.holds("the 32nd edit", flow.replaceAt(1, 6));
        refusesReplace(flow, 0);
        refusesReplace(flow, 1);
        CHECK.draft("32 edits", flow, 4, 6);
    }

    // Promise 6

    private static void deleteTooFew() {
        CHECK.edge(6, "n is 1 or more");
        for (int n : new int[] {0, -1, -2, LEAST, LEAST + 1}) {
            refusesDelete(with(1, 2, 3), 0, n);
            refusesDelete(with(1, 2, 3), 2, n);
            refusesDelete(with(1, 2, 3), 3, n);
            refusesDelete(with(1, 2, 3), 4, n);
            refusesDelete(new Flow(), 0, n);
        }
        Flow flow = with(1, 2, 3);
        CHECK.holds("deleteFrom(1, 1)", flow.deleteFrom(1, 1));
        CHECK.draft("one goes", flow, 1, 3);
        CHECK.input("not yet applied", flow, 1, 2, 3);
    }

    private static void deleteAllFromThereOn() {
        CHECK.edge(6, "all from a place on go");
        Flow flow = with(1, 2, 3, 4);
        CHECK.holds("deleteFrom(3, 1)", flow.deleteFrom(3, 1));
        CHECK.draft("the last one", flow, 1, 2, 3);
        CHECK.holds("deleteFrom(1, 2)", flow.deleteFrom(1, 2));
        CHECK.draft("all behind the first", flow, 1);
        CHECK.holds("deleteFrom(0, 1)", flow.deleteFrom(0, 1));
        CHECK.draft("all", flow);
        CHECK.same("edits", flow.lookAt(6), 3);
        flow = with(upTo(64));
        CHECK.holds("64 at once", flow.deleteFrom(0, 64));
        CHECK.same("none is left", flow.lookAt(5), 0);
        CHECK.same("one edit", flow.lookAt(6), 1);
        CHECK.same("64 are in the input", flow.lookAt(4), 64);
    }

    private static void deleteTooMany() {
        CHECK.edge(6, "there are not so many from there on");
        refusesDelete(new Flow(), 0, 1);
        refusesDelete(with(1, 2, 3), 0, 4);
        refusesDelete(with(1, 2, 3), 1, 3);
        refusesDelete(with(1, 2, 3), 2, 2);
        refusesDelete(with(1, 2, 3), 3, 1);
        Flow flow = with(upTo(64));
        CHECK.fails("65 of 64", flow.deleteFrom(0, 65));
        CHECK.fails("2 from the last one on", flow.deleteFrom(63, 2));
        CHECK.fails("1 behind the last one", flow.deleteFrom(64, 1));
        CHECK.same("64 are left", flow.lookAt(5), 64);
        CHECK.same("no edit", flow.lookAt(6), 0);
    }

    private static void deleteAtNoPlace() {
        CHECK.edge(6, "there is no such place");
        for (int i : new int[] {-1, -2, 4, 64, MOST, LEAST}) {
            refusesDelete(with(1, 2, 3), i, 1);
            refusesDelete(with(1, 2, 3), i, 2);
        }
        refusesDelete(with(1, 2, 3), -1, 3);
        refusesDelete(with(1, 2, 3), -3, 4);
    }

    private static void deleteBeyondAllInts() {
        CHECK.edge(6, "i and n together go round 2^32");
        int[][] far = {{1, MOST}, {3, MOST}, {MOST, MOST}, {MOST, 1}, {MOST, 2}, {LEAST, MOST}, {LEAST, LEAST},
            {-1, MOST}, {0, MOST}, {MOST, LEAST}, {2, MOST - 1}};
        for (int[] call : far) {
            refusesDelete(with(1, 2, 3), call[0], call[1]);
        }
    }

    private static void deleteLooksAtDraft() {
        CHECK.edge(6, "there are so many in the draft, not in the input");
        Flow flow = with(1, 2, 3);
        CHECK.holds("two go", flow.deleteFrom(1, 2));
        refusesDelete(flow, 0, 2);
        refusesDelete(flow, 1, 1);
        flow.insertAhead(0, 7);
        flow.insertAhead(0, 8);
        flow.insertAhead(0, 9);
        CHECK.holds("all four of the draft", flow.deleteFrom(0, 4));
        CHECK.draft("none is left", flow);
    }

    private static void deleteInFullBatch() {
        CHECK.edge(6, "the batch has 32");
        Flow flow = edited(31, 4, 5, 6);
        CHECK.holds("the 32nd edit", flow.deleteFrom(0, 1));
        refusesDelete(flow, 0, 1);
        refusesDelete(flow, 0, 2);
        CHECK.draft("32 edits", flow, 5, 6);
    }

    // Promise 7

    private static void reverseTooFew() {
        CHECK.edge(7, "n is 2 or more");
        for (int n : new int[] {1, 0, -1, -2, LEAST, LEAST + 1}) {
            refusesReverse(with(1, 2, 3), 0, n);
            refusesReverse(with(1, 2, 3), 2, n);
            refusesReverse(with(1, 2, 3), 3, n);
            refusesReverse(with(1, 2, 3), 5, n);
            refusesReverse(new Flow(), 0, n);
        }
    }

    private static void reverseTwo() {
        CHECK.edge(7, "two are turned about");
        Flow flow = with(1, 2, 3);
        CHECK.holds("reverseFrom(0, 2)", flow.reverseFrom(0, 2));
        CHECK.draft("the first two", flow, 2, 1, 3);
        CHECK.holds("reverseFrom(1, 2)", flow.reverseFrom(1, 2));
        CHECK.draft("the last two", flow, 2, 3, 1);
        CHECK.same("edits", flow.lookAt(6), 2);
        CHECK.input("not yet applied", flow, 1, 2, 3);
        flow = with(5, 5);
        CHECK.holds("two of the same", flow.reverseFrom(0, 2));
        CHECK.same("an edit", flow.lookAt(6), 1);
    }

    private static void reverseAllFromThereOn() {
        CHECK.edge(7, "all from a place on are turned about");
        Flow flow = with(1, 2, 3, 4, 5);
        CHECK.holds("reverseFrom(0, 5)", flow.reverseFrom(0, 5));
        CHECK.draft("five, the middle stays", flow, 5, 4, 3, 2, 1);
        CHECK.holds("reverseFrom(1, 4)", flow.reverseFrom(1, 4));
        CHECK.draft("four", flow, 5, 1, 2, 3, 4);
        CHECK.holds("reverseFrom(1, 3)", flow.reverseFrom(1, 3));
        CHECK.draft("three inside", flow, 5, 3, 2, 1, 4);
        flow = with(upTo(64));
        CHECK.holds("all 64", flow.reverseFrom(0, 64));
        for (int i = 0; i < 64; i++) {
            CHECK.same("int " + i, flow.inputAt(i, true), 63 - i);
        }
    }

    private static void reverseTooMany() {
        CHECK.edge(7, "there are not so many from there on");
        refusesReverse(new Flow(), 0, 2);
        refusesReverse(with(1), 0, 2);
        refusesReverse(with(1, 2, 3), 0, 4);
        refusesReverse(with(1, 2, 3), 1, 3);
        refusesReverse(with(1, 2, 3), 2, 2);
        refusesReverse(with(1, 2, 3), 3, 2);
        Flow flow = with(upTo(64));
        CHECK.fails("65 of 64", flow.reverseFrom(0, 65));
        CHECK.fails("2 from the last one on", flow.reverseFrom(63, 2));
        CHECK.same("the last one stays", flow.inputAt(63, true), 63);
        CHECK.same("no edit", flow.lookAt(6), 0);
    }

    private static void reverseAtNoPlace() {
        CHECK.edge(7, "there is no such place");
        for (int i : new int[] {-1, -2, 4, 64, MOST, LEAST}) {
            refusesReverse(with(1, 2, 3), i, 2);
            refusesReverse(with(1, 2, 3), i, 3);
        }
        refusesReverse(with(1, 2, 3), -1, 4);
    }

    private static void reverseBeyondAllInts() {
        CHECK.edge(7, "i and n together go round 2^32");
        int[][] far = {{1, MOST}, {3, MOST}, {MOST, MOST}, {MOST, 1}, {MOST, 2}, {LEAST, MOST}, {LEAST, LEAST},
            {-1, MOST}, {0, MOST}, {MOST, LEAST}, {2, MOST - 1}};
        for (int[] call : far) {
            refusesReverse(with(1, 2, 3), call[0], call[1]);
        }
    }

    private static void reverseLooksAtDraft() {
        CHECK.edge(7, "there are so many in the draft, not in the input");
        Flow flow = with(1, 2, 3);
        flow.deleteFrom(0, 1);
        refusesReverse(flow, 0, 3);
        CHECK.holds("both of the draft", flow.reverseFrom(0, 2));
        CHECK.draft("turned", flow, 3, 2);
        flow = new Flow();
        flow.insertAhead(0, 1);
        flow.insertAhead(0, 2);
        CHECK.holds("two that are not in the input", flow.reverseFrom(0, 2));
        CHECK.draft("turned", flow, 1, 2);
    }

    private static void reverseInFullBatch() {
        CHECK.edge(7, "the batch has 32");
        Flow flow = edited(31, 4, 5, 6);
        CHECK.holds("the 32nd edit", flow.reverseFrom(0, 3));
        refusesReverse(flow, 0, 2);
        refusesReverse(flow, 0, 3);
        CHECK.draft("32 edits", flow, 6, 5, 4);
    }

    // All edits

    private static void batchOfThirtyTwo() {
        CHECK.edge(4, "and 5 to 7: a batch has up to 32 edits of all kinds");
        Flow flow = with(NO_INTS);
        for (int round = 0; round < 8; round++) {
            CHECK.holds("insert", flow.insertAhead(0, round));
            CHECK.holds("insert", flow.insertAhead(1, round + 100));
            CHECK.holds("reverse", flow.reverseFrom(0, 2));
            CHECK.holds(round % 2 == 0 ? "replace" : "delete",
                round % 2 == 0 ? flow.replaceAt(0, round) : flow.deleteFrom(0, 1));
            CHECK.same("edits", flow.lookAt(6), 4 * (round + 1));
        }
        CHECK.fails("insert", flow.insertAhead(0, 1));
        CHECK.fails("replace", flow.replaceAt(0, 1));
        CHECK.fails("delete", flow.deleteFrom(0, 1));
        CHECK.fails("reverse", flow.reverseFrom(0, 2));
        CHECK.draft("what 32 edits make", flow, 7, 6, 6, 5, 4, 4, 3, 2, 2, 1, 0, 0);
        CHECK.same("applied", flow.applyBatch(), LevelFlow.NONE);
        CHECK.same("a new batch", flow.lookAt(6), 0);
        CHECK.holds("its first edit", flow.replaceAt(0, 1));
        CHECK.same("one", flow.lookAt(6), 1);
    }

    private static void refusedEditsAreNone() {
        CHECK.edge(4, "and 5 to 7: what answers false is no edit of the batch");
        Flow flow = with(1, 2);
        for (int k = 0; k < 40; k++) {
            flow.insertAhead(3, 1);
            flow.replaceAt(2, 1);
            flow.deleteFrom(2, 1);
            flow.reverseFrom(1, 2);
        }
        CHECK.same("no edits", flow.lookAt(6), 0);
        CHECK.holds("there is room for one", flow.insertAhead(2, 3));
        CHECK.draft("one edit", flow, 1, 2, 3);
    }

    // Promise 8

    private static void dropEmptyBatch() {
        CHECK.edge(8, "the batch is empty, and so it stays");
        Flow flow = new Flow();
        String before = flow.state();
        flow.dropBatch();
        CHECK.same("a new object is as it was", flow.state(), before);
        flow = with(1, 2);
        before = flow.state();
        flow.dropBatch();
        flow.dropBatch();
        CHECK.same("an input of two is as it was", flow.state(), before);
    }

    private static void dropFullBatch() {
        CHECK.edge(8, "a batch of 32 is empty again, the draft is the input");
        Flow flow = with(1, 2, 3);
        flow.deleteFrom(0, 3);
        for (int k = 0; k < 31; k++) {
            flow.insertAhead(0, k);
        }
        CHECK.same("32 edits", flow.lookAt(6), 32);
        CHECK.fails("no more", flow.insertAhead(0, 9));
        flow.dropBatch();
        CHECK.same("none", flow.lookAt(6), 0);
        CHECK.draft("the input's", flow, 1, 2, 3);
        CHECK.input("as it was", flow, 1, 2, 3);
        for (int k = 0; k < 32; k++) {
            CHECK.holds("room for edit " + (k + 1), flow.reverseFrom(0, 3));
        }
        CHECK.fails("a 33rd", flow.reverseFrom(0, 3));
        flow.dropBatch();
        flow.deleteFrom(0, 3);
        flow.dropBatch();
        CHECK.draft("ints that have gone are back", flow, 1, 2, 3);
    }

    private static void dropRefusedBatch() {
        CHECK.edge(8, "a batch that was refused is empty again");
        Flow flow = with(1);
        CHECK.same("taken", flow.take("(chg e()list(jump e))"
            + "(fun main((l lmod))lmod(lmod(read l x(case x(write nil)(h t(if(less h 9)(write x)(jump e)))))))"), 0);
        flow.replaceAt(0, 9);
        CHECK.same("refused", flow.applyBatch(), -7);
        flow.dropBatch();
        CHECK.same("no edits", flow.lookAt(6), 0);
        CHECK.draft("the input's", flow, 1);
        CHECK.same("applied", flow.applyBatch(), 1);
    }

    private static void dropLeavesTheRest() {
        CHECK.edge(8, "nothing but the batch is changed");
        Flow flow = with(1, 2);
        flow.take("(fun main((l lmod))lmod l)");
        flow.applyBatch();
        flow.take("(");
        flow.give("(fun main((l lmod))lmod (lmod(write nil)))");
        String before = flow.state();
        flow.insertAhead(0, 3);
        flow.dropBatch();
        CHECK.same("all else is as it was", flow.state(), before);
        CHECK.same("the tape, too", flow.takeProgram(), 0);
        CHECK.same("its steps", flow.lookAt(8), 3);
    }
}
