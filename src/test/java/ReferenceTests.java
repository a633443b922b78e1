import java.util.ArrayList;
import java.util.Collections;
import java.util.List;
import java.util.Random;

/** Made-up calls, with the answers of Reference and of plain lists as those that are due. */
public final class ReferenceTests {
    private static final int OBJECTS = 6000;
    private static final int TURNS = 120;
    private static final Check CHECK = new Check();

    private final Random random;
    private final Maker maker;
    private final Flow flow = new Flow();

    private Reference program;
    private List<Integer> input = new ArrayList<>();
    private List<Integer> draft = new ArrayList<>();
    private List<Integer> output = new ArrayList<>();
    private int edits;
    private int steps = LevelFlow.NONE;
    private int fault;
    private int place = LevelFlow.NONE;
    private int applied;

    private final int[] seen;

    private ReferenceTests(long seed, int[] seen) {
        random = new Random(seed);
        maker = new Maker(random);
        this.seen = seen;
    }

    public static void main(String[] args) throws InterruptedException {
        int objects = args.length > 0 ? Integer.parseInt(args[0]) : OBJECTS;
        int[] seen = new int[9];
        Thread thread = new Thread(null, () -> {
            for (int seed = 0; seed < objects && CHECK.wrong() == 0; seed++) {
                new ReferenceTests(seed, seen).run();
            }
            tokenByToken(seen);
            for (int seed = 0; seed < objects / 10 && CHECK.wrong() == 0; seed++) {
                new ReferenceTests(seed, seen).manyBatches();
            }
        }, "reference", 1L << 29);
        boolean[] thrown = new boolean[1];
        thread.setUncaughtExceptionHandler((t, e) -> {
            e.printStackTrace();
            thrown[0] = true;
        });
        thread.start();
        thread.join();
        CHECK.fails("something was thrown", thrown[0]);
        for (int kind = 0; kind <= 8; kind++) {
            String what = kind < 8 ? "takeProgram() answered " + kind : "applyBatch() answered -7";
            System.out.println(what + ": " + seen[kind] + " times");
            CHECK.holds(what + " was tested", seen[kind] > 0);
        }
        CHECK.end("ReferenceTests");
    }

    /** Each token of a text taken away, another one put in its place, and ahead of it. */
    private static void tokenByToken(int[] seen) {
        List<String> tokens = List.of(Maker.ALL_FORMS.split(" "));
        for (int at = 0; at < tokens.size() && CHECK.wrong() == 0; at++) {
            List<String> changed = new ArrayList<>(tokens);
            changed.remove(at);
            takeByItself(changed, seen);
            for (String token : Maker.TOKENS) {
                changed.add(at, token);
                takeByItself(changed, seen);
                changed.add(at + 1, tokens.get(at));
                takeByItself(changed, seen);
                changed.remove(at + 1);
                changed.remove(at);
            }
        }
    }

    private static void takeByItself(List<String> tokens, int[] seen) {
        ReferenceTests one = new ReferenceTests(0, seen);
        one.take(String.join(" ", tokens));
        one.compare();
    }

    /** Batch behind batch over one program: each one's output and steps are those of a whole run. */
    private void manyBatches() {
        fill(random.nextInt(12));
        take(maker.knownProgram());
        for (int turn = 0; turn < TURNS && hasCallsFor("") && CHECK.wrong() == 0; turn++) {
            int count = random.nextInt(4);
            for (int k = 0; k < count; k++) {
                edit();
            }
            apply();
            if (random.nextInt(3) == 0) {
                compare();
            } else {
                CHECK.same("steps", flow.lookAt(8), steps);
            }
            if (edits > 0) {
                flow.dropBatch();
                restart();
            }
        }
    }

    private void run() {
        if (random.nextInt(4) == 0) {
            fill(random.nextInt(66));
        }
        for (int turn = 0; turn < TURNS && hasCallsFor("") && CHECK.wrong() == 0; turn++) {
            int choice = random.nextInt(20);
            if (choice == 0) {
                take(maker.program());
            } else if (choice < 3) {
                take(maker.withFault(maker.program()));
            } else if (choice < 7) {
                apply();
            } else if (choice == 7) {
                flow.dropBatch();
                restart();
            } else {
                edit();
            }
            if (random.nextInt(3) == 0) {
                compare();
            }
        }
    }

    /** To give and take a text, with a call to spare for each number that compare() looks at. */
    private boolean hasCallsFor(String text) {
        return flow.callsLeft() >= Flow.callsToGive(text) + 20;
    }

    private void take(String text) {
        if (!hasCallsFor(text)) {
            return;
        }
        flow.give(text);
        CHECK.same("tape", flow.lookAt(0), text.length());
        fault = 0;
        place = LevelFlow.NONE;
        try {
            Reference read = Reference.read(text);
            output = read.run(input);
            program = read;
            steps = read.steps();
        } catch (Reference.Fault e) {
            fault = e.kind;
            place = e.place;
        } catch (Reference.TooLong e) {
            fault = 7;
        }
        seen[fault]++;
        restart();
        CHECK.same("takeProgram of " + text, flow.takeProgram(), fault);
        if (flow.lookAt(2) != place) {
            System.out.println("in the text " + text);
        }
    }

    private void apply() {
        int due = LevelFlow.NONE;
        boolean fits = true;
        if (program != null) {
            try {
                output = program.run(draft);
                steps = program.steps();
                applied++;
                due = output.size();
            } catch (Reference.TooLong e) {
                due = -7;
                seen[8]++;
                fits = false;
            }
        }
        if (fits) {
            input = new ArrayList<>(draft);
            edits = 0;
        }
        CHECK.same("applyBatch", flow.applyBatch(), due);
    }

    private void restart() {
        draft = new ArrayList<>(input);
        edits = 0;
    }

    private void fill(int count) {
        for (int k = 0; k < count; k++) {
            int v = someInt();
            boolean fits = edits < 32 && draft.size() < 64;
            CHECK.same("insertAhead", flow.insertAhead(0, v) ? 1 : 0, fits ? 1 : 0);
            if (fits) {
                draft.add(0, v);
                edits++;
            } else {
                apply();
            }
        }
    }

    private int someInt() {
        return random.nextInt(4) == 0 ? random.nextInt() : random.nextInt(120) - 20;
    }

    private void edit() {
        int i = random.nextInt(draft.size() + 3) - 1;
        int n = random.nextInt(5) - 1;
        int v = someInt();
        boolean room = edits < 32;
        boolean has = i >= 0 && i < draft.size();
        boolean done;
        switch (random.nextInt(6)) {
            case 0:
                done = room && has && n >= 1 && i + n <= draft.size();
                CHECK.same("deleteFrom", flow.deleteFrom(i, n) ? 1 : 0, done ? 1 : 0);
                if (done) {
                    draft.subList(i, i + n).clear();
                }
                break;
            case 1:
                done = room && has && n >= 2 && i + n <= draft.size();
                CHECK.same("reverseFrom", flow.reverseFrom(i, n) ? 1 : 0, done ? 1 : 0);
                if (done) {
                    Collections.reverse(draft.subList(i, i + n));
                }
                break;
            case 2:
                done = room && has;
                CHECK.same("replaceAt", flow.replaceAt(i, v) ? 1 : 0, done ? 1 : 0);
                if (done) {
                    draft.set(i, v);
                }
                break;
            default:
                done = room && i >= 0 && i <= draft.size() && draft.size() < 64;
                CHECK.same("insertAhead", flow.insertAhead(i, v) ? 1 : 0, done ? 1 : 0);
                if (done) {
                    draft.add(i, v);
                }
        }
        edits += done ? 1 : 0;
    }

    private void compare() {
        boolean has = program != null;
        int sum = 0;
        for (int v : output) {
            sum += v;
        }
        int[] due = {0, fault, place, has ? program.definitions() : 0, input.size(), draft.size(), edits,
            has ? output.size() : LevelFlow.NONE, has ? steps : LevelFlow.NONE, applied, sum};
        for (int which = 0; which < due.length; which++) {
            CHECK.same("lookAt(" + which + ")", flow.lookAt(which), due[which]);
        }
        if (random.nextInt(3) > 0 || flow.callsLeft() < 23 + output.size() + input.size() + draft.size()) {
            return;
        }
        CHECK.list("output", flow.output(), output);
        CHECK.list("input", flow.input(false), input);
        CHECK.list("draft", flow.input(true), draft);
    }
}
