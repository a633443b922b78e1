import java.util.ArrayList;
import java.util.List;

/**
 * A LevelFlow that is called in the ways that tests need often. It counts the calls: what an object answers
 * behind its 512th call is free, so a test that asks for it would ask for nothing that is promised.
 */
final class Flow {
    static final int MOST_CALLS = 512;

    private final LevelFlow flow = new LevelFlow();
    private final int most;
    private int calls;

    Flow() {
        this(MOST_CALLS);
    }

    /** For the one edge that no 512 calls can reach, the tape's: they give 4096 bytes at the most. */
    static Flow ofManyCalls() {
        return new Flow(Integer.MAX_VALUE);
    }

    private Flow(int most) {
        this.most = most;
    }

    private LevelFlow called() {
        if (calls >= most) {
            throw new IllegalStateException("the test calls an object more than " + most + " times");
        }
        calls++;
        return flow;
    }

    int callsLeft() {
        return most - calls;
    }

    boolean giveText(long v, int n) {
        return called().giveText(v, n);
    }

    int takeProgram() {
        return called().takeProgram();
    }

    boolean insertAhead(int i, int v) {
        return called().insertAhead(i, v);
    }

    boolean replaceAt(int i, int v) {
        return called().replaceAt(i, v);
    }

    boolean deleteFrom(int i, int n) {
        return called().deleteFrom(i, n);
    }

    boolean reverseFrom(int i, int n) {
        return called().reverseFrom(i, n);
    }

    void dropBatch() {
        called().dropBatch();
    }

    int applyBatch() {
        return called().applyBatch();
    }

    int outputAt(int i) {
        return called().outputAt(i);
    }

    int inputAt(int i, boolean draft) {
        return called().inputAt(i, draft);
    }

    int lookAt(int which) {
        return called().lookAt(which);
    }

    static int callsToGive(String text) {
        return (text.length() + 7) / 8;
    }

    /** Bytes are the characters 0 to 255 of the text. */
    boolean give(String text) {
        for (int from = 0; from < text.length(); from += 8) {
            int n = Math.min(8, text.length() - from);
            long v = 0;
            for (int k = 0; k < n; k++) {
                v = v << 8 | text.charAt(from + k);
            }
            if (!giveText(v, n)) {
                return false;
            }
        }
        return true;
    }

    int take(String text) {
        give(text);
        return takeProgram();
    }

    /** Makes the draft these ints and applies it. */
    int feed(int... ints) {
        dropBatch();
        int old = lookAt(5);
        if (old > 0) {
            deleteFrom(0, old);
        }
        int edits = old > 0 ? 1 : 0;
        for (int i = 0; i < ints.length; i++) {
            if (edits == 32) {
                applyBatch();
                edits = 0;
            }
            insertAhead(i, ints[i]);
            edits++;
        }
        return applyBatch();
    }

    List<Integer> output() {
        List<Integer> ints = new ArrayList<>();
        int size = lookAt(7);
        for (int i = 0; i < size; i++) {
            ints.add(outputAt(i));
        }
        return ints;
    }

    List<Integer> input(boolean draft) {
        List<Integer> ints = new ArrayList<>();
        int size = lookAt(draft ? 5 : 4);
        for (int i = 0; i < size; i++) {
            ints.add(inputAt(i, draft));
        }
        return ints;
    }

    /** All that can be seen of the object, to be compared with what is seen later. */
    String state() {
        StringBuilder state = new StringBuilder();
        for (int which = 0; which <= 10; which++) {
            state.append(lookAt(which)).append(' ');
        }
        return state.append(output()).append(input(false)).append(input(true)).toString();
    }
}
