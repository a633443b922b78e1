import java.util.List;

/** Counts answers that are as due, and those that are not, which it prints with the promise and its case. */
final class Check {
    private static final int MOST_PRINTED = 40;

    private String current = "";
    private int right;
    private int wrong;
    private int edges;

    /** What is checked from here on belongs to this case of a promise. */
    void edge(int promise, String sentence) {
        current = "promise " + promise + ", " + sentence + ": ";
        edges++;
    }

    void same(String what, long got, long due) {
        answer(what, got == due, String.valueOf(got), String.valueOf(due));
    }

    void same(String what, String got, String due) {
        answer(what, got.equals(due), got, due);
    }

    void list(String what, List<Integer> got, List<Integer> due) {
        answer(what, got.equals(due), got.toString(), due.toString());
    }

    void holds(String what, boolean got) {
        answer(what, got, String.valueOf(got), "true");
    }

    void fails(String what, boolean got) {
        answer(what, !got, String.valueOf(got), "false");
    }

    private void answer(String what, boolean isDue, String got, String due) {
        if (isDue) {
            right++;
            return;
        }
        wrong++;
        if (wrong <= MOST_PRINTED) {
            System.out.println(current + what + ": answered " + got + ", due is " + due);
        }
    }

    int wrong() {
        return wrong;
    }

    void end(String name) {
        String cases = edges > 0 ? edges + " cases of promises, " : "";
        System.out.println(name + ": " + cases + right + " answers as due, " + wrong + " not");
        if (wrong != 0 || right == 0) {
            System.exit(1);
        }
    }

    void output(String what, Flow flow, Integer... due) {
        list(what + ", output", flow.output(), List.of(due));
    }

    void input(String what, Flow flow, Integer... due) {
        list(what + ", input", flow.input(false), List.of(due));
    }

    void draft(String what, Flow flow, Integer... due) {
        list(what + ", draft", flow.input(true), List.of(due));
    }

    void noOutputAt(Flow flow, int i) {
        boolean thrown = false;
        try {
            flow.outputAt(i);
        } catch (IndexOutOfBoundsException e) {
            thrown = e.getClass() == IndexOutOfBoundsException.class;
        }
        holds("outputAt(" + i + ") throws", thrown);
    }

    void noInputAt(Flow flow, int i, boolean draft) {
        boolean thrown = false;
        try {
            flow.inputAt(i, draft);
        } catch (IndexOutOfBoundsException e) {
            thrown = e.getClass() == IndexOutOfBoundsException.class;
        }
        holds("inputAt(" + i + ", " + draft + ") throws", thrown);
    }
}
