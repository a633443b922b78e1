/**
 * What the tests of texts share: texts around an expression, and what is due when one is taken. They extend
 * this class to have its functions by their plain names.
 */
abstract class Texts {
    static final Check CHECK = new Check();
    static final String MAIN = "(fun main((l lmod))lmod l)";

    /** Expressions around the one that oneInt() is given: lmod, write, cons, lmod, write, nil. */
    private static final int STEPS_AROUND = 6;

    /** The place of the fault is marked with a @, which is no part of the text. */
    static void fault(int kind, String marked) {
        int place = marked.indexOf('@');
        faultAt(kind, place, marked.replace("@", ""));
    }

    static void faultAt(int kind, int place, String text) {
        Flow flow = new Flow();
        CHECK.same("takeProgram of " + text, flow.take(text), kind);
        CHECK.same("fault of " + text, flow.lookAt(1), kind);
        CHECK.same("place in " + text, flow.lookAt(2), place);
        CHECK.same("definitions of " + text, flow.lookAt(3), 0);
        CHECK.same("tape behind " + text, flow.lookAt(0), 0);
        CHECK.same("output of " + text, flow.lookAt(7), LevelFlow.NONE);
        takeBehindOthers(kind, place, text);
    }

    static Flow taken(String text, int... input) {
        Flow flow = new Flow();
        flow.feed(input);
        CHECK.same("takeProgram of " + text, flow.take(text), 0);
        CHECK.same("fault of " + text, flow.lookAt(1), 0);
        CHECK.same("place of " + text, flow.lookAt(2), LevelFlow.NONE);
        if (input.length == 0 && takeBehindOthers(0, LevelFlow.NONE, text)) {
            CHECK.same("definitions behind others of " + text, used.lookAt(3), flow.lookAt(3));
            CHECK.same("steps behind others of " + text, used.lookAt(8), flow.lookAt(8));
            CHECK.same("sum behind others of " + text, used.lookAt(10), flow.lookAt(10));
        }
        return flow;
    }

    /** Takes text after text, with and without faults: none may leave anything for the next one. */
    private static Flow used = new Flow();

    /** False for a text that is too long to be given beside others. */
    private static boolean takeBehindOthers(int kind, int place, String text) {
        int calls = Flow.callsToGive(text) + 6;
        if (calls > Flow.MOST_CALLS / 2) {
            return false;
        }
        if (used.callsLeft() < calls) {
            used = new Flow();
        }
        CHECK.same("takeProgram behind others of " + text, used.take(text), kind);
        CHECK.same("fault behind others of " + text, used.lookAt(1), kind);
        CHECK.same("place behind others in " + text, used.lookAt(2), place);
        return true;
    }

    static String inMain(String stable) {
        return "(fun main((l lmod))lmod " + stable + ")";
    }

    static String inMainChangeable(String changeable) {
        return inMain("(lmod " + changeable + ")");
    }

    static String oneInt(String stable) {
        return inMainChangeable("(write(cons " + stable + "(lmod(write nil))))");
    }

    static void value(String stable, int due, int steps) {
        valueWith("", stable, due, steps);
    }

    static void valueWith(String definitions, String stable, int due, int steps) {
        Flow flow = taken(definitions + oneInt(stable));
        CHECK.output(stable, flow, due);
        CHECK.same("steps of " + stable, flow.lookAt(8), steps + STEPS_AROUND);
    }

    /** pa, pb, pc and so on, the mark ahead of the ninth one. */
    static String parameters(int count, String mark) {
        StringBuilder text = new StringBuilder();
        for (int k = 0; k < count; k++) {
            text.append(k == 8 ? mark : "").append("(p").append((char) ('a' + k)).append(" int)");
        }
        return text.toString();
    }

    static String definitions(int count) {
        StringBuilder text = new StringBuilder();
        for (int k = 0; k < count; k++) {
            text.append("(fun f").append((char) ('a' + k / 26)).append((char) ('a' + k % 26)).append("()int 1)");
        }
        return text.toString();
    }

    /** So many variables x, each hiding the one before. */
    static String lets(int count, String inside) {
        StringBuilder text = new StringBuilder();
        for (int k = 0; k < count; k++) {
            text.append("(let x ").append(k).append(' ');
        }
        return text.append(inside).append(")".repeat(count)).toString();
    }
}
