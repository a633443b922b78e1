/** Promise 3, one case for each edge of runs that the document names, and what takeProgram() leaves behind. */
public final class RunEdgeTests extends Texts {
    private static final int MOST = Integer.MAX_VALUE;
    private static final int LEAST = Integer.MIN_VALUE;
    private static final String ENDLESS = inMain("(call main l)");

    private RunEdgeTests() {
    }

    public static void main(String[] args) {
        addGoesRound();
        subGoesRound();
        mulGoesRound();
        divByZero();
        divOfLeastByMinusOne();
        divTowardsZero();
        remByZero();
        remIsWhatIsLeft();
        lessAtItsBounds();
        sameAtItsBounds();
        ifNotZero();
        caseOfNil();
        operandsInTheirOrder();
        hiddenVariables();
        variablesBehindOthers();
        parametersAreNewVariables();
        stepsOfEachExpression();
        modifiablesHoldWhatIsWritten();
        inputOfNoneAndOfSixtyFour();
        outputLongerThanInput();
        manyLists();
        deepOperands();
        limitOfTake();
        runsWithoutEnd();
        limitLooksAtInput();
        runIsOverInput();
        refusedRunsLeaveNothing();
        sevenChangesNothing();
        faultsChangeNothing();
        takeLeavesTapeAndBatchEmpty();
        newProgramTakesOver();
        CHECK.end("RunEdgeTests");
    }

    private static void operation(String word, int first, int second, int due) {
        value("(" + word + " " + first + " " + second + ")", due, 3);
    }

    // Values

    private static void addGoesRound() {
        CHECK.edge(3, "add is modulo 2^32");
        operation("add", MOST, 1, LEAST);
        operation("add", MOST, MOST, -2);
        operation("add", LEAST, -1, MOST);
        operation("add", LEAST, LEAST, 0);
        operation("add", MOST, LEAST, -1);
        operation("add", MOST, 0, MOST);
    }

    private static void subGoesRound() {
        CHECK.edge(3, "sub is modulo 2^32");
        operation("sub", LEAST, 1, MOST);
        operation("sub", MOST, -1, LEAST);
        operation("sub", 0, LEAST, LEAST);
        operation("sub", LEAST, MOST, 1);
        operation("sub", MOST, LEAST, -1);
        operation("sub", 3, 5, -2);
    }

    private static void mulGoesRound() {
        CHECK.edge(3, "mul is modulo 2^32");
        operation("mul", 65536, 65536, 0);
        operation("mul", 65536, 32768, LEAST);
        operation("mul", 65535, 65537, -1);
        operation("mul", MOST, MOST, 1);
        operation("mul", MOST, 2, -2);
        operation("mul", LEAST, -1, LEAST);
        operation("mul", LEAST, LEAST, 0);
        operation("mul", LEAST, 2, 0);
        operation("mul", -3, 4, -12);
    }

    private static void divByZero() {
        CHECK.edge(3, "div by 0 is 0");
        for (int first : new int[] {0, 1, -1, 7, MOST, LEAST}) {
            operation("div", first, 0, 0);
        }
        operation("div", 0, 5, 0);
    }

    private static void divOfLeastByMinusOne() {
        CHECK.edge(3, "div of -2147483648 by -1 is -2147483648");
        operation("div", LEAST, -1, LEAST);
        operation("div", LEAST + 1, -1, MOST);
        operation("div", MOST, -1, -MOST);
        operation("div", LEAST, 1, LEAST);
        operation("div", LEAST, LEAST, 1);
        operation("div", LEAST, MOST, -1);
        operation("div", MOST, LEAST, 0);
    }

    private static void divTowardsZero() {
        CHECK.edge(3, "div is rounded towards 0");
        operation("div", 7, 2, 3);
        operation("div", -7, 2, -3);
        operation("div", 7, -2, -3);
        operation("div", -7, -2, 3);
        operation("div", 1, 2, 0);
        operation("div", -1, 2, 0);
        operation("div", 6, 3, 2);
        operation("div", -6, 3, -2);
    }

    private static void remByZero() {
        CHECK.edge(3, "rem by 0 is the first");
        for (int first : new int[] {0, 1, -1, 7, -7, MOST, LEAST}) {
            operation("rem", first, 0, first);
        }
    }

    private static void remIsWhatIsLeft() {
        CHECK.edge(3, "rem is what is left of div");
        operation("rem", 7, 2, 1);
        operation("rem", -7, 2, -1);
        operation("rem", 7, -2, 1);
        operation("rem", -7, -2, -1);
        operation("rem", 6, 3, 0);
        operation("rem", 2, 5, 2);
        operation("rem", -2, 5, -2);
        operation("rem", LEAST, -1, 0);
        operation("rem", LEAST, MOST, -1);
        operation("rem", MOST, LEAST, MOST);
        operation("rem", LEAST, LEAST, 0);
    }

    private static void lessAtItsBounds() {
        CHECK.edge(3, "less is 1 if the first is below the second, else 0");
        operation("less", 1, 2, 1);
        operation("less", 2, 2, 0);
        operation("less", 3, 2, 0);
        operation("less", -1, 0, 1);
        operation("less", LEAST, MOST, 1);
        operation("less", MOST, LEAST, 0);
        operation("less", LEAST, LEAST, 0);
        operation("less", MOST, MOST, 0);
        operation("less", LEAST, LEAST + 1, 1);
    }

    private static void sameAtItsBounds() {
        CHECK.edge(3, "same is 1 if they are equal, else 0");
        operation("same", 0, 0, 1);
        operation("same", 1, 2, 0);
        operation("same", 1, -1, 0);
        operation("same", LEAST, LEAST, 1);
        operation("same", MOST, MOST, 1);
        operation("same", LEAST, MOST, 0);
        operation("same", 128, 128, 1);
        operation("same", 1000, 1000, 1);
    }

    private static void ifNotZero() {
        CHECK.edge(3, "if: the second, if the first is not 0, else the third");
        for (int first : new int[] {1, -1, 2, 256, 65536, MOST, LEAST}) {
            value("(if " + first + " 5(add 6 7))", 5, 3);
        }
        value("(if 0(add 6 7)5)", 5, 3);
        value("(if -0(add 6 7)5)", 5, 3);
        value("(if 0 5(add 6 7))", 13, 5);
        CHECK.output("of changeable ones", taken(inMainChangeable("(if -1(write(cons 1 l))(write nil))"), 2), 1, 2);
        CHECK.output("of changeable ones", taken(inMainChangeable("(if 0(write(cons 1 l))(write nil))"), 2));
    }

    private static void caseOfNil() {
        CHECK.edge(3, "case: the second, if it is NIL, else the last");
        value("(case nil 5(h t(add h 6)))", 5, 3);
        value("(case(cons 4(lmod(write nil)))5(h t(add h 6)))", 10, 9);
        value("(case(cons 0(lmod(write nil)))5(h t h))", 0, 7);
        String first = inMainChangeable("(read l x(case x(write(cons -5 l))(h t(write(cons h t)))))");
        CHECK.output("an empty INPUT", taken(first), -5);
        CHECK.output("an INPUT of one 0", taken(first, 0), 0);
        CHECK.output("an INPUT of two", taken(first, 3, 4), 3, 4);
    }

    private static void operandsInTheirOrder() {
        CHECK.edge(3, "operands first, in their order");
        valueWith("(fun f((a int)(b int)(c int))int(sub(mul a 100)(sub(mul b 10)c)))", "(call f 3 2 1)", 281, 13);
        value("(sub(sub 10 1)(sub 5 2))", 6, 7);
        value("(div(add 40 2)(sub 9 2))", 6, 7);
    }

    private static void hiddenVariables() {
        CHECK.edge(3, "an inner variable hides an outer one, which is there again behind it");
        value("(let x 1(let x 2 x))", 2, 5);
        value("(let x 1(add(let x 2 x)x))", 3, 7);
        value("(let x 1(add x(let x 2 x)))", 3, 7);
        value("(let x 1(let y(let x(add x 4)(mul x 10))(add x y)))", 51, 13);
        value("(let h 1(add(case(cons 8(lmod(write nil)))0(h t h))h))", 9, 11);
        value("(let t 1(add(case(cons 8(lmod(write nil)))0(h t h))t))", 9, 11);
        CHECK.output("of read", taken(inMainChangeable(
            "(let x 1(read(imod(read(imod(write 5))x(write(add x 1))))y(write(cons(add x y)l))))")), 7);
        CHECK.output("a parameter", taken("(fun f((a int))int(add(let a 10 a)a))" + oneInt("(call f 1)")), 11);
    }

    private static void variablesBehindOthers() {
        CHECK.edge(3, "a variable has its own value, whatever was bound in the part ahead of it");
        String one = "(cons 8(lmod(write nil)))";
        value("(let x(let y 1(let z 2(add y z)))(let u 5(sub x u)))", -2, 13);
        value("(case(let y 1(let z 2 " + one + "))0(h t(let u 5(sub h u))))", 3, 15);
        value("(let x(case " + one + "0(h t(let u 1 h)))(let y 5(sub x y)))", 3, 15);
        valueWith("(fun f((a int)(b int))list(let c 1" + one + "))", "(case(call f 1 2)0(h t h))", 8, 12);
        valueWith("(fun f((a int)(b int))int(let c 1 b))", "(let x(call f 1 2)(let y(call f 3 4)(sub x y)))", -2, 17);
        CHECK.output("of read", taken("(fun f((a int)(b int))imod(let c 1(imod(write b))))"
            + inMainChangeable("(read(call f 1 2)x(read(call f 3 4)y(write(cons(sub x y)l))))")), -2);
    }

    private static void parametersAreNewVariables() {
        CHECK.edge(3, "a DEFINITION's parameters are the operands, and its variables its own");
        valueWith("(fun f((a int)(b int))int(let c(add a b)(mul c 2)))",
            "(let a 100(let b(call f 1 2)(add a(sub b(call f b a)))))", -106, 27);
        valueWith("(fun f((a int))int(if a(let b(call f(sub a 1))(add a b))0))", "(call f 4)", 10, 45);
        valueWith("(fun f((a int)(b int))int(sub a b))(fun g((b int)(a int))int(call f a b))", "(call g 1 5)", 4, 9);
    }

    // Steps

    private static void stepsOfEachExpression() {
        CHECK.edge(3, "to EVALUATE an expression is one STEP, for each expression each time");
        value("7", 7, 1);
        value("(let x 4 x)", 4, 3);
        value("(case nil 4(h t 5))", 4, 3);
        for (String word : new String[] {"add", "sub", "mul", "div", "rem", "less", "same"}) {
            value("(" + word + " 1 1)", word.matches("sub|rem|less") ? 0 : word.equals("add") ? 2 : 1, 3);
        }
        value("(if 1 2(add(add 1 2)3))", 2, 3);
        value("(if 0(add(add 1 2)3)2)", 2, 3);
        value("(case nil 2(h t(add(add 1 2)3)))", 2, 3);
        value("(case(cons 1(lmod(write nil)))(add(add 1 2)3)(h t 2))", 2, 7);
        valueWith("(fun f()int 3)", "(call f)", 3, 2);
        valueWith("(fun f()int 3)", "(memo f)", 3, 2);
        valueWith("(fun f((a int)(b int))int 3)", "(call f 1 2)", 3, 4);
        valueWith("(fun f((a int)(b int))int 3)", "(add(memo f 1 2)(memo f 1 2))", 6, 9);
        value("(let x(imod(write 1))2)", 2, 5);
        steps("l", 1);
        steps("(lmod(write nil))", 3);
        steps("(lmod(write(cons 1 l)))", 5);
        steps("(lmod(read l x(write x)))", 5);
        steps("(lmod(if 1(write nil)(write(cons 1 l))))", 5);
        steps("(lmod(let x 1(write nil)))", 5);
        steps("(lmod(case nil(write nil)(h t(write(cons h t)))))", 5);
        steps("(lmod(jump c 1))", 5);
        steps("(lmod(read(imod(write 1))x(write nil)))", 7);
    }

    private static void steps(String stable, int due) {
        Flow flow = taken("(chg c((n int))list(write nil))" + inMain(stable));
        CHECK.same("steps of " + stable, flow.lookAt(8), due);
    }

    private static void modifiablesHoldWhatIsWritten() {
        CHECK.edge(3, "imod, lmod: a new MODIFIABLE, which holds what its C writes");
        for (int v : new int[] {0, -1, MOST, LEAST}) {
            Flow flow = taken(inMainChangeable("(read(imod(write " + v + "))x(write(cons x l)))"));
            CHECK.output("an int", flow, v);
        }
        CHECK.output("NIL", taken(inMainChangeable("(read(lmod(write nil))x(write x))"), 1));
        Flow flow = taken(inMain("(let a(lmod(write(cons 1 l)))(let b(lmod(write(cons 2 a)))"
            + "(lmod(read a x(read b y(write(cons 3 b)))))))"), 7);
        CHECK.output("two with one tail", flow, 3, 2, 1, 7);
        flow = taken(inMain("(let a(lmod(read l x(write x)))a)"), 7, 8);
        CHECK.output("what another one holds", flow, 7, 8);
    }

    // Input and output

    private static final String MAP =
        "(chg m((l list))list(case l(write nil)(h t(write(cons(add(mul h 3)1)(memo map t))))))"
        + "(fun map((l lmod))lmod(lmod(read l x(jump m x))))(fun main((l lmod))lmod(call map l))";

    private static void inputOfNoneAndOfSixtyFour() {
        CHECK.edge(3, "the INPUT has up to 64 ints");
        Flow flow = taken(MAP);
        CHECK.output("over none", flow);
        CHECK.same("steps over none", flow.lookAt(8), 11);
        int[] ints = new int[64];
        for (int k = 0; k < 64; k++) {
            ints[k] = k - 32;
        }
        flow = taken(MAP, ints);
        CHECK.same("64 ints", flow.lookAt(7), 64);
        CHECK.same("steps over 64", flow.lookAt(8), 11 + 64 * 16);
        for (int k = 0; k < 64; k++) {
            CHECK.same("int " + k, flow.outputAt(k), 3 * (k - 32) + 1);
        }
        CHECK.noOutputAt(flow, 64);
    }

    private static void outputLongerThanInput() {
        CHECK.edge(3, "the OUTPUT is as long as a RUN can make it");
        String twenty = "(lmod(write(cons n ".repeat(20) + "l" + ")))".repeat(20);
        Flow flow = taken("(fun f((n int)(l lmod))lmod(if n(call f(sub n 1)" + twenty + ")l))" + inMain("(call f 68 l)"), 5);
        CHECK.same("ints", flow.lookAt(7), 1361);
        CHECK.same("steps", flow.lookAt(8), 3 + 68 * 87 + 3);
        for (int i = 0; i < 1360; i += 7) {
            CHECK.same("int " + i, flow.outputAt(i), i / 20 + 1);
        }
        CHECK.same("the last one", flow.outputAt(1360), 5);
        CHECK.noOutputAt(flow, 1361);
        CHECK.same("sum", flow.lookAt(10), 20 * 68 * 69 / 2 + 5);
        CHECK.same("applied", flow.applyBatch(), 1361);
    }

    private static void manyLists() {
        CHECK.edge(3, "a RUN makes as many LISTS as its STEPS let it");
        String lists = "(a list)(b list)(c list)(d list)(e list)(g list)(h list)(i list)";
        String nested = ("(call f" + "(cons n l)".repeat(7)).repeat(10) + "(cons n l)" + ")".repeat(10);
        Flow flow = taken("(fun f(" + lists + ")list i)"
            + "(fun k((n int)(l lmod)(x list))list(if n(call k(sub n 1)l" + nested + ")x))"
            + inMainChangeable("(write(call k 24(lmod(write(cons 4 l)))nil))"), 5);
        CHECK.output("the last one", flow, 1, 4, 5);
        CHECK.same("steps", flow.lookAt(8), 10 + 24 * 240 + 3);
    }

    private static void deepOperands() {
        CHECK.edge(3, "a RUN nests as deep as its STEPS let it");
        Flow flow = taken("(fun f((n int))int(if n(add 1(call f(sub n 1)))0))" + oneInt("(call f 748)"));
        CHECK.output("adds", flow, 748);
        CHECK.same("steps", flow.lookAt(8), 6 + 2 + 748 * 8 + 3);
        flow = taken("(fun f((n int)(a int)(b int)(c int))int(if n(call f 0 b c(call f(sub n 1)a b c))(sub a c)))"
            + oneInt("(call f 200 9 5 1)"));
        CHECK.same("calls in operands", flow.lookAt(7), 1);
        flow = taken("(chg d((n int))list(if n(read(lmod(jump d(sub n 1)))x(write(cons n(lmod(write x)))))(write nil)))"
            + inMainChangeable("(jump d 300)"));
        CHECK.same("modifiables in modifiables", flow.lookAt(7), 300);
        CHECK.same("the outermost one", flow.outputAt(0), 300);
        CHECK.same("the innermost one", flow.outputAt(299), 1);
    }

    // Limit

    private static final String DOWN = "(chg d((n int))list(if n(jump d(sub n 1))(write(call e))))";
    private static final String ENDS = "(fun e()list nil)(fun f()list(call e))(fun g()list(call f))";

    private static void limitOfTake() {
        CHECK.edge(3, "6000 STEPS are no more than LIMIT, with 6001 it answers 7");
        Flow flow = taken(ENDS + DOWN + inMainChangeable("(jump d(add 0(add 0 998)))"));
        CHECK.same("steps", flow.lookAt(8), 6000);
        fault(7, ENDS + DOWN.replace("call e", "call f") + inMainChangeable("(jump d(add 0(add 0 998)))"));
        fault(7, ENDS + DOWN.replace("call e", "call g") + inMainChangeable("(jump d(add 0(add 0 998)))"));
        flow = taken(ENDS + DOWN.replace("call e", "call g") + inMainChangeable("(jump d(add 0 998))"));
        CHECK.same("steps", flow.lookAt(8), 6000);
        flow = taken(ENDS + DOWN.replace("call e", "call f") + inMainChangeable("(jump d(add 0 998))"));
        CHECK.same("steps", flow.lookAt(8), 5999);
        fault(7, ENDS + DOWN + inMainChangeable("(jump d(add 0(add 0(add 0 998))))"));
        fault(7, ENDS + DOWN + inMainChangeable("(jump d 999)"));
    }

    private static void runsWithoutEnd() {
        CHECK.edge(3, "7 for a RUN without an end");
        fault(7, ENDLESS);
        fault(7, inMain("(memo main l)"));
        fault(7, "(chg f()list(jump f))" + inMainChangeable("(jump f)"));
        fault(7, "(chg f()list(jump g))(chg g()list(jump f))" + inMainChangeable("(jump f)"));
        fault(7, "(fun f()int(add 1(call f)))" + oneInt("(call f)"));
        fault(7, "(fun f()int(add(call f)1))" + oneInt("(call f)"));
        fault(7, inMain("(lmod(read(call main l)x(write x)))"));
        fault(7, inMain("(lmod(write(cons 1(call main l))))"));
        fault(7, "(fun f((a int)(b int)(c int)(d int)(e int)(g int)(h int)(i int))int(call f 1 2 3 4 5 6 7(call f a b c d e g h i)))"
            + oneInt("(call f 1 2 3 4 5 6 7 8)"));
        fault(7, "(fun f((n int))int(case(cons n(lmod(write nil)))1(h t(call f(add h 1)))))" + oneInt("(call f 1)"));
        fault(7, "(chg d((n int))list(if n(jump d(sub n 1))(write nil)))" + inMainChangeable("(jump d -1)"));
    }

    private static final String FIRST_COUNTS = DOWN + "(fun e()list nil)"
        + inMainChangeable("(read l x(case x(write nil)(h t(jump d h))))");

    private static void limitLooksAtInput() {
        CHECK.edge(3, "the RUN is over the INPUT: the same text is taken over one, and 7 over another");
        CHECK.same("over none", taken(FIRST_COUNTS).lookAt(8), 7);
        CHECK.same("over 997", taken(FIRST_COUNTS, 997).lookAt(8), 5994);
        CHECK.same("over 998", taken(FIRST_COUNTS, 998).lookAt(8), 6000);
        Flow flow = new Flow();
        flow.feed(999);
        CHECK.same("over 999", flow.take(FIRST_COUNTS), 7);
        CHECK.same("no place", flow.lookAt(2), LevelFlow.NONE);
        CHECK.same("no PROGRAM", flow.lookAt(3), 0);
        CHECK.input("as it was", flow, 999);
        flow.replaceAt(0, 998);
        flow.applyBatch();
        CHECK.same("over 998 then", flow.take(FIRST_COUNTS), 0);
        CHECK.same("its steps", flow.lookAt(8), 6000);
    }

    private static void runIsOverInput() {
        CHECK.edge(3, "the RUN is over the INPUT, not over the DRAFT");
        Flow flow = new Flow();
        flow.feed(3);
        flow.replaceAt(0, 999);
        CHECK.same("taken", flow.take(FIRST_COUNTS), 0);
        CHECK.same("steps over 3", flow.lookAt(8), 30);
        CHECK.draft("the DRAFT is the INPUT", flow, 3);
        flow = new Flow();
        flow.feed(999);
        flow.replaceAt(0, 3);
        CHECK.same("7", flow.take(FIRST_COUNTS), 7);
        CHECK.draft("the DRAFT is the INPUT", flow, 999);
    }

    private static void refusedRunsLeaveNothing() {
        CHECK.edge(3, "a RUN that would take more than LIMIT leaves nothing for later ones");
        String deep = "(fun f((n int))int(add n(call f n)))(fun g((n int))int(call f(add 1(call g n))))";
        Flow flow = taken(deep + inMainChangeable("(read l x(case x(write nil)(h t(if h(write(cons(call f h)l))"
            + "(write(cons(if h(call g h)7)t))))))"), 0, 3, 4);
        String before = flow.state();
        for (int k = 0; k < 60; k++) {
            flow.replaceAt(0, k + 1);
            CHECK.same("refused", flow.applyBatch(), -7);
            flow.dropBatch();
        }
        CHECK.same("all is as before", flow.state(), before);
        CHECK.same("applied", flow.applyBatch(), 3);
        CHECK.output("its own", flow, 7, 3, 4);
        CHECK.same("steps", flow.lookAt(8), 13);
    }

    // What stays and what goes

    private static final String TWO = "(fun e()list nil)" + inMainChangeable("(read l x(write(cons 9 l)))");

    /** A PROGRAM with OUTPUT, applied once, a fault from before, a BATCH. */
    private static Flow inUse() {
        Flow flow = taken(TWO, 4, 5);
        flow.applyBatch();
        flow.take("     #");
        flow.insertAhead(0, 3);
        flow.deleteFrom(1, 2);
        CHECK.same("in use", flow.state(), "0 1 5 2 2 1 2 3 7 1 18 [9, 4, 5][4, 5][3]");
        return flow;
    }

    private static void sevenChangesNothing() {
        CHECK.edge(3, "with 7 the PROGRAM before stays, with its OUTPUT and STEPS");
        Flow flow = inUse();
        CHECK.same("7", flow.take("(fun a()int 1)(fun b()int 1)" + ENDLESS), 7);
        CHECK.same("behind 7", flow.state(), "0 7 -1 2 2 2 0 3 7 1 18 [9, 4, 5][4, 5][4, 5]");
        flow.insertAhead(2, 6);
        CHECK.same("it RUNS on", flow.applyBatch(), 4);
        CHECK.output("its own", flow, 9, 4, 5, 6);
    }

    private static void faultsChangeNothing() {
        CHECK.edge(3, "with a fault the PROGRAM before stays, with its OUTPUT and STEPS");
        String ahead = "(fun a()int 1)(fun b()int 1)";
        String[] texts = {ahead + "@#", ahead + "@)", ahead + "(@", ahead + "(fun @c()int 1)", ahead + inMain("@zz"),
            ahead + inMain("@nil")};
        for (int k = 0; k < texts.length; k++) {
            int kind = k + 1;
            int place = texts[k].indexOf('@');
            Flow flow = inUse();
            CHECK.same("fault", flow.take(texts[k].replace("@", "")), kind);
            CHECK.same("behind it", flow.state(),
                "0 " + kind + " " + place + " 2 2 2 0 3 7 1 18 [9, 4, 5][4, 5][4, 5]");
            flow.insertAhead(2, 6);
            CHECK.same("it RUNS on", flow.applyBatch(), 4);
            CHECK.output("its own", flow, 9, 4, 5, 6);
            CHECK.same("steps", flow.lookAt(8), 7);
        }
        Flow flow = inUse();
        CHECK.same("an empty TAPE", flow.takeProgram(), 4);
        CHECK.same("behind it", flow.state(), "0 4 0 2 2 2 0 3 7 1 18 [9, 4, 5][4, 5][4, 5]");
    }

    private static void takeLeavesTapeAndBatchEmpty() {
        CHECK.edge(3, "the TAPE is empty then, and the BATCH, whatever it answers");
        String[] texts = {MAIN, "#", ")", "(", " ", inMain("zz"), inMain("1"), ENDLESS};
        for (int kind = 0; kind < texts.length; kind++) {
            Flow flow = new Flow();
            flow.feed(4, 5);
            for (int k = 0; k < 32; k++) {
                flow.insertAhead(0, k);
            }
            flow.give(texts[kind]);
            CHECK.same("bytes", flow.lookAt(0), texts[kind].length());
            CHECK.same("takeProgram", flow.takeProgram(), kind);
            CHECK.same("bytes behind it", flow.lookAt(0), 0);
            CHECK.same("EDITS behind it", flow.lookAt(6), 0);
            CHECK.draft("the INPUT", flow, 4, 5);
            CHECK.input("as it was", flow, 4, 5);
            CHECK.same("no BATCH was applied", flow.lookAt(9), 0);
            CHECK.holds("there is room for EDITS", flow.insertAhead(2, 6));
            CHECK.same("a text by itself", flow.take(MAIN), 0);
        }
    }

    private static void newProgramTakesOver() {
        CHECK.edge(3, "a PROGRAM that is taken answers 0, and is the one that RUNS then");
        Flow flow = inUse();
        CHECK.same("taken", flow.take(MAIN), 0);
        CHECK.same("behind it", flow.state(), "0 0 -1 1 2 2 0 2 1 1 9 [4, 5][4, 5][4, 5]");
        CHECK.same("taken", flow.take(TWO), 0);
        CHECK.same("behind it", flow.state(), "0 0 -1 2 2 2 0 3 7 1 18 [9, 4, 5][4, 5][4, 5]");
        CHECK.same("taken", flow.take(MAP), 0);
        flow.deleteFrom(0, 1);
        CHECK.same("applied", flow.applyBatch(), 1);
        CHECK.output("its own", flow, 16);
    }
}
