import java.util.ArrayList;
import java.util.List;

/** Counts answers that are not as due, and calls a LevelFlow in the ways that tests need often. */
final class Check {
    private static final int MOST_PRINTED = 40;

    private int right;
    private int wrong;

    void same(String what, long got, long due) {
        if (got == due) {
            right++;
            return;
        }
        wrong++;
        if (wrong <= MOST_PRINTED) {
            System.out.println(what + ": answered " + got + ", due is " + due);
        }
    }

    void holds(String what, boolean got) {
        same(what, got ? 1 : 0, 1);
    }

    void fails(String what, boolean got) {
        same(what, got ? 1 : 0, 0);
    }

    int wrong() {
        return wrong;
    }

    void end(String name) {
        System.out.println(name + ": " + right + " answers as due, " + wrong + " not");
        if (wrong != 0) {
            System.exit(1);
        }
    }

    /** Bytes are the characters 0 to 255 of the text. */
    static boolean give(LevelFlow flow, String text) {
        for (int from = 0; from < text.length(); from += 8) {
            int n = Math.min(8, text.length() - from);
            long v = 0;
            for (int k = 0; k < n; k++) {
                v = v << 8 | text.charAt(from + k);
            }
            if (!flow.giveText(v, n)) {
                return false;
            }
        }
        return true;
    }

    static int take(LevelFlow flow, String text) {
        give(flow, text);
        return flow.takeProgram();
    }

    /** Makes the draft these ints and applies it. */
    static int feed(LevelFlow flow, int... ints) {
        flow.dropBatch();
        if (flow.lookAt(5) > 0) {
            flow.deleteFrom(0, flow.lookAt(5));
        }
        for (int i = 0; i < ints.length; i++) {
            if (flow.lookAt(6) == 32) {
                flow.applyBatch();
            }
            flow.insertAhead(i, ints[i]);
        }
        return flow.applyBatch();
    }

    static List<Integer> output(LevelFlow flow) {
        List<Integer> ints = new ArrayList<>();
        for (int i = 0; i < flow.lookAt(7); i++) {
            ints.add(flow.outputAt(i));
        }
        return ints;
    }

    static List<Integer> input(LevelFlow flow, boolean draft) {
        List<Integer> ints = new ArrayList<>();
        for (int i = 0; i < flow.lookAt(draft ? 5 : 4); i++) {
            ints.add(flow.inputAt(i, draft));
        }
        return ints;
    }

    void output(String what, LevelFlow flow, Integer... due) {
        list(what + ", output", output(flow), List.of(due));
    }

    void list(String what, List<Integer> got, List<Integer> due) {
        if (!got.equals(due)) {
            System.out.println(what + ": answered " + got + ", due is " + due);
        }
        holds(what, got.equals(due));
    }

    void noOutputAt(LevelFlow flow, int i) {
        boolean thrown = false;
        try {
            flow.outputAt(i);
        } catch (IndexOutOfBoundsException e) {
            thrown = e.getClass() == IndexOutOfBoundsException.class;
        }
        holds("outputAt(" + i + ") throws", thrown);
    }

    void noInputAt(LevelFlow flow, int i, boolean draft) {
        boolean thrown = false;
        try {
            flow.inputAt(i, draft);
        } catch (IndexOutOfBoundsException e) {
            thrown = e.getClass() == IndexOutOfBoundsException.class;
        }
        holds("inputAt(" + i + ", " + draft + ") throws", thrown);
    }
}
