/** The calls that README.md shows, with the answers that it tells. */
public final class ExampleTests {
    private static final String TEXT =
        "(chg twice ((l list)) list"
        + "  (case l (write nil) (h t (write (cons (add h h) (memo all t))))))"
        + "(fun all ((l lmod)) lmod (lmod (read l x (jump twice x))))"
        + "(fun main ((l lmod)) lmod (call all l))";

    private static final Check CHECK = new Check();

    private ExampleTests() {
    }

    public static void main(String[] args) {
        LevelFlow flow = new LevelFlow();
        takeIt(flow);
        editIt(flow);
        refuseIt(flow);
        CHECK.end("ExampleTests");
    }

    private static void give(LevelFlow flow, String text) {
        for (int from = 0; from < text.length(); from += 8) {
            int n = Math.min(8, text.length() - from);
            long v = 0;
            for (int k = 0; k < n; k++) {
                v = v << 8 | text.charAt(from + k);
            }
            flow.giveText(v, n);
        }
    }

    private static void takeIt(LevelFlow flow) {
        CHECK.edge(3, "the program of README.md is taken");
        give(flow, TEXT);
        CHECK.same("takeProgram()", flow.takeProgram(), 0);
    }

    private static void editIt(LevelFlow flow) {
        CHECK.edge(9, "the batches of README.md are applied");
        CHECK.holds("insertAhead(0, 40)", flow.insertAhead(0, 40));
        CHECK.holds("insertAhead(1, 2)", flow.insertAhead(1, 2));
        CHECK.same("applyBatch()", flow.applyBatch(), 2);
        CHECK.same("outputAt(0)", flow.outputAt(0), 80);
        CHECK.same("lookAt(8)", flow.lookAt(8), 39);

        CHECK.holds("reverseFrom(0, 2)", flow.reverseFrom(0, 2));
        CHECK.same("inputAt(0, true)", flow.inputAt(0, true), 2);
        CHECK.same("inputAt(0, false)", flow.inputAt(0, false), 40);
        CHECK.same("applyBatch()", flow.applyBatch(), 2);
        CHECK.same("outputAt(0)", flow.outputAt(0), 4);
        CHECK.same("lookAt(10)", flow.lookAt(10), 84);
    }

    private static void refuseIt(LevelFlow flow) {
        CHECK.edge(3, "the text with a fault of README.md leaves the program as it was");
        give(flow, "(fun main ((l lmod)) lmod (call twice l))");
        CHECK.same("takeProgram()", flow.takeProgram(), 5);
        CHECK.same("lookAt(2)", flow.lookAt(2), 32);
        CHECK.same("outputAt(0)", flow.outputAt(0), 4);
    }
}
