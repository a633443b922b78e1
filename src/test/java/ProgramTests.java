/** Promise 3: which texts are taken, the first fault of the others with its place, values and steps. */
public final class ProgramTests extends Texts {
    private ProgramTests() {
    }

    public static void main(String[] args) {
        tokens();
        badBytes();
        badTokensOfDefinitions();
        badTokensOfExpressions();
        wordsAreNoNames();
        limitsOfTexts();
        earlyEnds();
        noMain();
        notThere();
        otherTypes();
        orderOfFaults();
        orderOfTypes();
        oldProgramStays();
        arithmetic();
        choices();
        variables();
        lists();
        definitions();
        limit();
        limitOfBatches();
        CHECK.end("ProgramTests");
    }

    private static void tokens() {
        CHECK.edge(3, "TOKENS: names, numbers, and what stands between them");
        taken(MAIN);
        taken("  \n(fun\nmain (( l\n\nlmod ) )lmod\nl )\n ");
        taken("(fun main((abcdefghijkl lmod))lmod abcdefghijkl)");
        taken("(fun aadd((anil int))int anil)(fun ad((l int))int l)" + MAIN);
        valueWith("(fun f()int 1)(fun af()int 2)(fun aaf()int 3)", "(call af)", 2, 2);
        value("(let aa 1(let a 2 aa))", 1, 5);
        value("2147483647", 2147483647, 1);
        value("-2147483648", -2147483648, 1);
        value("00000000000000000000000000000000000007", 7, 1);
        value("-00000000000000000000000000002147483648", -2147483648, 1);
        value("-0", 0, 1);
        value("000", 0, 1);
    }

    private static void badBytes() {
        CHECK.edge(3, "fault 1: a byte, a NAME or a NUMBER that is none");
        fault(1, "@#");
        fault(1, "@\t" + MAIN);
        fault(1, "@\r" + MAIN);
        fault(1, "(fun main((l lmod))lmod l)@\0");
        fault(1, "(fun main((l lmod))lmod l)@\u00ff");
        fault(1, "(fun main((l lmod))lmod l@L)");
        fault(1, "(fun main((l lmod))lmod @Main)");
        fault(1, "(fun main((@abcdefghijklm lmod))lmod l)");
        fault(1, "(fun main((l lmod))lmod @l1)");
        fault(1, "(fun main((l lmod))lmod @1l)");
        fault(1, "(fun main((l lmod))lmod @-)");
        fault(1, "(fun main((l lmod))lmod @--1)");
        fault(1, "(fun main((l lmod))lmod @1-1)");
        fault(1, "(fun main((l lmod))lmod @a-b)");
        fault(1, "(fun main((l lmod))lmod @-a)");
        fault(1, "(fun main((l lmod))lmod @2147483648)");
        fault(1, "(fun main((l lmod))lmod @-2147483649)");
        fault(1, "(fun main((l lmod))lmod @99999999999999999999999999999999999999)");
        fault(1, "(fun main((l lmod))lmod @18446744073709551617)");
        fault(1, "(fun main((l lmod))lmod(add 1 @+2))");
        fault(1, "(fun main((l lmod))lmod(add 1 1@.5))");
    }

    private static void badTokensOfDefinitions() {
        CHECK.edge(3, "fault 2 of what is around an expression");
        fault(2, "@)");
        fault(2, "@fun");
        fault(2, "@7");
        fault(2, "(@)");
        fault(2, "(@(");
        fault(2, "(@main((l lmod))lmod l)");
        fault(2, "(@let x 1 x)");
        fault(2, "(fun @7((l lmod))lmod l)");
        fault(2, "(fun @(l lmod)lmod l)");
        fault(2, "(fun main@)");
        fault(2, "(fun main @l lmod l)");
        fault(2, "(fun main(@l lmod)lmod l)");
        fault(2, "(fun main((@(l lmod)))lmod l)");
        fault(2, "(fun main((l int @lmod))lmod l)");
        fault(2, "(fun main((l @foo))lmod l)");
        fault(2, "(fun main((l @nil))lmod l)");
        fault(2, "(fun main((l @5))lmod l)");
        fault(2, "(fun main((l lmod @k))lmod l)");
        fault(2, "(fun main((l lmod)@l)lmod l)");
        fault(2, "(fun main((l lmod)(k int)(@l int))lmod l)");
        fault(2, "(fun main((l lmod))@foo l)");
        fault(2, "(fun main((l lmod))@(lmod)l)");
        fault(2, "(chg f()@imod(write 1))" + MAIN);
        fault(2, "(chg f()@lmod(write nil))" + MAIN);
        fault(2, "(chg f()int @1)" + MAIN);
        fault(2, "(chg f()int @x)" + MAIN);
        fault(2, "(chg f()int(@add 1 2))" + MAIN);
        fault(2, "(fun f()int(@write 1))" + MAIN);
        fault(2, "(fun main((l lmod))lmod l @l)");
        fault(2, "(fun main((l lmod))lmod l)@)");
        fault(2, "(fun main((l lmod))lmod l)@l");
        fault(2, "(fun f()int 1)(chg g()int(write 1))(chg @f()int(write 1))" + MAIN);
        fault(2, MAIN + "(fun @main((l lmod))lmod l)");
        taken("(fun f((f int))int f)" + MAIN);
    }

    private static void badTokensOfExpressions() {
        CHECK.edge(3, "fault 2 of an expression");
        fault(2, inMain("@)"));
        fault(2, inMain("(@)"));
        fault(2, inMain("(@(add 1 2))"));
        fault(2, inMain("(@7)"));
        fault(2, inMain("(@l)"));
        fault(2, inMain("(@nil)"));
        fault(2, inMain("(@int 1)"));
        fault(2, inMain("(@fun 1)"));
        fault(2, inMain("(@read l x(write x))"));
        fault(2, inMain("(@jump f)"));
        fault(2, inMain("(add 1@)"));
        fault(2, inMain("(add 1 2 @3)"));
        fault(2, inMain("(if 1 2@)"));
        fault(2, inMain("(if 1 2 3 @4)"));
        fault(2, inMain("(let @1 2 3)"));
        fault(2, inMain("(let @(x)2 3)"));
        fault(2, inMain("(let x 1@)"));
        fault(2, inMain("(let x 1 2 @3)"));
        fault(2, inMain("(case nil 1 @2)"));
        fault(2, inMain("(case nil 1(@1 t 2))"));
        fault(2, inMain("(case nil 1(h @1 2))"));
        fault(2, inMain("(case nil 1(h @h 2))"));
        fault(2, inMain("(case nil 1(h t@))"));
        fault(2, inMain("(case nil 1(h t 2 @3))"));
        fault(2, inMain("(case nil 1(h t 2)@3)"));
        fault(2, inMain("(cons 1@)"));
        fault(2, inMain("(call @7)"));
        fault(2, inMain("(call@)"));
        fault(2, inMain("(memo @(f))"));
        fault(2, inMain("(imod @1)"));
        fault(2, inMain("(imod @x)"));
        fault(2, inMain("(imod(write 1)@2)"));
        fault(2, inMain("(lmod @nil)"));
        fault(2, inMain("(lmod(@lmod(write 1)))"));
        fault(2, inMain("(lmod(@call f))"));
        fault(2, inMainChangeable("(read l @5(write nil))"));
        fault(2, inMainChangeable("(read l x @x)"));
        fault(2, inMainChangeable("(read(@read l x(write x))x(write x))"));
        fault(2, inMainChangeable("(read l x(write x)@x)"));
        fault(2, inMainChangeable("(write(@write nil))"));
        fault(2, inMainChangeable("(write nil @nil)"));
        fault(2, inMainChangeable("(if 1 @nil nil)"));
        fault(2, inMainChangeable("(let x 1 @x)"));
        fault(2, inMainChangeable("(let x(@write 1)(write nil))"));
        fault(2, inMainChangeable("(case nil @1(h t(write nil)))"));
        fault(2, inMainChangeable("(case nil(write nil)(h t @nil))"));
        fault(2, inMainChangeable("(jump @5)"));
        fault(2, inMainChangeable("(jump f(@jump f))"));
    }

    private static void wordsAreNoNames() {
        CHECK.edge(3, "fault 2: words are no NAMES of variables or DEFINITIONS");
        String[] words = {"add", "sub", "mul", "div", "rem", "less", "same", "if", "let", "case", "cons",
            "call", "memo", "imod", "lmod", "read", "write", "jump", "nil", "int", "list", "fun", "chg"};
        for (String word : words) {
            fault(2, "(fun @" + word + "()int 1)");
            fault(2, "(fun f((@" + word + " int))int 1)");
            fault(2, inMain("(let @" + word + " 1 l)"));
            fault(2, inMain("(case nil l(@" + word + " t l))"));
            fault(2, inMain("(case nil l(h @" + word + " l))"));
            fault(2, inMainChangeable("(read l @" + word + "(write nil))"));
            fault(2, inMain("(call @" + word + ")"));
            fault(2, inMain("(memo @" + word + ")"));
            fault(2, inMainChangeable("(jump @" + word + ")"));
            if (!word.equals("nil")) {
                fault(2, inMain("@" + word));
            }
        }
        taken("(fun adds((main int))int main)" + inMain("(let ad 1(let addd 2(let nils 3 l)))"));
    }

    private static void limitsOfTexts() {
        CHECK.edge(3, "fault 2: more than 8 parameters, 64 DEFINITIONS or 24 variables");
        taken("(fun f(" + parameters(8, "") + ")int ph)" + MAIN);
        fault(2, "(fun f(" + parameters(9, "@") + ")int ph)" + MAIN);
        CHECK.same("64 definitions", taken(definitions(63) + MAIN).lookAt(3), 64);
        fault(2, definitions(64) + "@" + MAIN);
        fault(1, definitions(64) + "@#");
        fault(4, definitions(63) + "(fun @last()int 1)");
        taken(inMain(lets(23, "l")));
        fault(2, inMain(lets(23, "(let @y 1 l)")));
        taken(inMain(lets(22, "(let y(let z 1 z)l)")));
        fault(2, inMain(lets(22, "(let y 1(let @z 1 l))")));
        taken(inMain(lets(21, "(case nil l(h t l))")));
        fault(2, inMain(lets(22, "(case nil l(h @t l))")));
        fault(2, inMain(lets(23, "(case nil l(@h t l))")));
        taken(inMain(lets(22, "(lmod(read l x(write x)))")));
        fault(2, inMain(lets(23, "(lmod(read l @x(write x)))")));
        fault(2, "(fun f(" + parameters(8, "") + ")int " + lets(16, "(let @y 1 y)") + ")" + MAIN);
        String eight = "(fun f(" + parameters(8, "") + ")lmod(lmod(write nil)))";
        taken(eight + inMain("(call f 1 2 3 4 5 6 7 8)"));
        fault(5, eight + inMain("(call @f 1 2 3 4 5 6 7 8 9)"));
        fault(5, eight + inMain("(call @f 1 2 3 4 5 6 7)"));
        fault(5, inMain("(call @f 1 2 3 4 5 6 7 8 9 10 11 12 13 14 15 16 17 18 19 20)"));
    }

    private static void earlyEnds() {
        CHECK.edge(3, "fault 3: the text ends where a TOKEN has to be");
        String whole = "(chg f((x int))int(read(imod(write x))y(jump f y)))"
            + "(fun main((l lmod))lmod(let z(if(case nil 1(h t h))(memo g z -5)(same 1 2))l))";
        int first = whole.indexOf("(fun");
        for (int end = 1; end < whole.length(); end++) {
            if (end == first) {
                continue;
            }
            String cut = whole.substring(0, end);
            boolean isOneWord = cut.matches(".*[( )][a-z0-9-]+");
            Flow flow = new Flow();
            int kind = flow.take(cut + " ");
            if (!isOneWord) {
                CHECK.same("fault of " + cut, kind, 3);
                CHECK.same("place of the end of " + cut, flow.lookAt(2), end + 1);
            }
        }
        fault(3, "(@");
        fault(3, "(fun@");
        fault(3, "(fun main  \n@");
        fault(3, "(fun main((l lmod))lmod l@");
        fault(3, MAIN + "(@");
    }

    private static void noMain() {
        CHECK.edge(3, "fault 4: the last DEFINITION is not main as said");
        fault(4, "@");
        fault(4, "  \n @");
        fault(4, "(fun @mai((l lmod))lmod l)");
        fault(4, "(fun @mainn((l lmod))lmod l)");
        fault(4, "(fun @amain((l lmod))lmod l)");
        fault(4, "(fun @main()lmod(lmod(write nil)))");
        fault(4, "(fun @main((l imod))lmod l)");
        fault(4, "(fun @main((l list))lmod l)");
        fault(4, "(fun @main((l lmod)(k lmod))lmod l)");
        fault(4, "(fun @main((l lmod))list nil)");
        fault(4, "(fun @main((l lmod))imod(imod(write 1)))");
        fault(4, "(chg @main((l lmod))list(read l x(write x)))");
        fault(4, MAIN + "(fun @f()int 1)");
        fault(4, "(fun f()int z)(fun @main((l int))lmod z)");
    }

    private static void notThere() {
        CHECK.edge(3, "fault 5: a variable or an F that is not there, or other numbers of operands");
        fault(5, inMain("@x"));
        fault(5, inMain("(let x @x l)"));
        fault(5, inMain("(let y(let x 1 2)(let z @x l))"));
        fault(5, inMain("(case nil @h(h t t))"));
        fault(5, inMain("(let z(case nil 1(h t h))(let y @t l))"));
        fault(5, inMainChangeable("(read @x x(write x))"));
        fault(5, inMainChangeable("(if @x(write nil)(write nil))"));
        fault(5, "(fun f((a int))int a)" + inMain("(let z @a l)"));
        fault(5, inMain("@main"));
        fault(5, inMain("(call @f l)"));
        fault(5, inMain("(memo @f)"));
        fault(5, inMain("(call @l)"));
        fault(5, inMainChangeable("(jump @f)"));
        fault(5, inMainChangeable("(jump @main l)"));
        fault(5, "(chg f()list(write nil))" + inMain("(call @f)"));
        fault(5, "(chg f()list(write nil))" + inMain("(memo @f)"));
        fault(5, "(chg f()list(write nil))" + inMainChangeable("(jump @f 1)"));
        fault(5, "(fun f((a int)(b int))lmod(call main(lmod(write nil))))" + inMain("(call @f 1)"));
        fault(5, "(fun f((a int)(b int))lmod(call main(lmod(write nil))))" + inMain("(call @f 1 2 3)"));
        fault(5, "(fun f((a int)(b int))lmod(call main(lmod(write nil))))" + inMain("(call @f)"));
        fault(5, inMain("(call @f zz(add nil nil))"));
        fault(5, inMain("(call @main zz zz)"));
    }

    private static void otherTypes() {
        CHECK.edge(3, "fault 6: an expression of another TYPE than it has to be");
        fault(6, inMain("@1"));
        fault(6, inMain("@nil"));
        fault(6, inMain("@(add 1 2)"));
        fault(6, inMain("@(imod(write 1))"));
        for (String word : new String[] {"add", "sub", "mul", "div", "rem", "less", "same"}) {
            fault(6, inMain("(let x(" + word + " @nil 1)l)"));
            fault(6, inMain("(let x(" + word + " 1 @l)l)"));
            fault(6, inMain("(let x(" + word + " 1 @(imod(write 1)))l)"));
            fault(6, inMain("@(" + word + " 1 2)"));
        }
        fault(6, inMain("(if @nil l l)"));
        fault(6, inMain("(if 1 l @1)"));
        fault(6, inMain("(if 1 1 @l)"));
        fault(6, inMain("(if 1 l @(if 1 2 3))"));
        fault(6, inMain("@(let x l 1)"));
        fault(6, inMain("(let x l(cons 1 @nil))"));
        fault(6, inMain("(case @l l(h t l))"));
        fault(6, inMain("(case @1 l(h t l))"));
        fault(6, inMain("(case nil l(h t @h))"));
        fault(6, inMain("(case nil 1(h t @t))"));
        fault(6, inMain("@(case nil 1(h t h))"));
        fault(6, inMain("(let x(cons @l l)l)"));
        fault(6, inMain("(let x(cons 1 @2)l)"));
        fault(6, inMain("@(cons 1 l)"));
        fault(6, inMain("(call main @1)"));
        fault(6, "(fun f((a int)(b list))lmod(lmod(write b)))" + inMain("(memo f 1 @2)"));
        fault(6, "(fun f((a int)(b list))lmod(lmod(write b)))" + inMain("(memo f @nil nil)"));
        fault(6, "(fun f((a int))int a)" + inMain("@(call f 1)"));
        fault(6, "(fun f((a int))list @a)" + MAIN);
        fault(6, "(chg f((a int))list @(write a))" + MAIN);
        fault(6, "(chg f((a list))int @(write a))" + MAIN);
        fault(6, "(chg f((a int))int(write a))" + inMainChangeable("@(jump f 1)"));
        fault(6, "(chg f((a int))list(write nil))" + inMainChangeable("(jump f @l)"));
        fault(6, inMain("(lmod @(write 1))"));
        fault(6, inMain("(let x(imod @(write nil))l)"));
        fault(6, inMain("(lmod(write @l))"));
        fault(6, inMain("(lmod(write @(imod(write 1))))"));
        fault(6, inMainChangeable("(read @1 x(write nil))"));
        fault(6, inMainChangeable("(read @nil x(write nil))"));
        fault(6, inMain("(lmod @(read(imod(write 1))x(write x)))"));
        fault(6, inMain("(lmod @(read l x(write 1)))"));
        fault(6, inMainChangeable("(read l x(write(cons @x l)))"));
        fault(6, inMainChangeable("(if 1(write nil)@(write 1))"));
        fault(6, inMainChangeable("(if @l(write nil)(write nil))"));
        fault(6, inMainChangeable("(case nil(write nil)(h t @(write h)))"));
        fault(6, inMain("(lmod @(let x 1(write x)))"));
    }

    private static void orderOfFaults() {
        CHECK.edge(3, "the first fault is told");
        fault(1, "(fun f()int zz)(fun main((l lmod))lmod @1a");
        fault(2, "(fun f()int zz)(fun main((l lmod))@a 1a");
        fault(2, "(fun f()int nil)(fun @f");
        fault(3, "(fun f()int nil)(fun g@");
        fault(4, "(fun f()int zz)(fun @g()int nil)");
        fault(5, "(fun f()int @zz)(fun g()int nil)" + MAIN);
        fault(6, "(fun g()int @nil)(fun f()int zz)" + MAIN);
        fault(5, "(fun main((l lmod))lmod(let a(add @x nil)l))");
        fault(6, "(fun main((l lmod))lmod(let a(add @nil x)l))");
    }

    private static void orderOfTypes() {
        CHECK.edge(3, "5 and 6 in the order of the text, parts ahead of the whole");
        fault(5, inMain("(add(cons 1 @zz)nil)"));
        fault(6, inMain("(add @(cons 1 l)zz)"));
        fault(6, inMain("(if @nil zz zz)"));
        fault(5, inMain("(if 1 nil(if 1 2 @zz))"));
        fault(6, inMain("(if 1 nil(if 1 2 @nil))"));
        fault(6, inMain("(if 1 2 @nil)"));
        fault(6, inMain("(case nil(add 1 @nil)(h t zz))"));
        fault(6, inMain("(call main @(let x 1 x))"));
        fault(5, inMain("(call main(let x 1 @y))"));
        fault(6, inMainChangeable("(read @7 x(write zz))"));
        fault(6, inMainChangeable("(read @7 x(write x))"));
        fault(5, inMainChangeable("(read(imod(write @zz))x(write nil))"));
        fault(6, inMainChangeable("(read l x(read @x y(write y)))"));
        fault(5, inMain("(lmod(let x 1(write @zz)))"));
        fault(5, inMain("(imod(write(cons 1 @zz)))"));
        fault(6, inMain("(let x(case nil(let a l(let b l 1))(h t(add h @t)))l)"));
        taken(inMain("(case nil(let a l(let b 1 a))(h t(let u(add h h)t)))"));
        taken(inMain("(let x(let y l(let z y z))(let x(cons 1 x)(lmod(write x))))"));
    }

    private static void oldProgramStays() {
        CHECK.edge(3, "with a fault, or 7, the PROGRAM before stays");
        Flow flow = taken("(fun f()int 1)" + MAIN, 4, 5);
        CHECK.same("a fault", flow.take("(fun f()int 1)(fun g()int 1)(fun main((l lmod))lmod x)"), 5);
        CHECK.same("its place", flow.lookAt(2), 52);
        CHECK.same("definitions", flow.lookAt(3), 2);
        CHECK.same("steps", flow.lookAt(8), 1);
        CHECK.output("old one", flow, 4, 5);
        CHECK.same("an empty tape", flow.takeProgram(), 4);
        CHECK.same("the latest place", flow.lookAt(2), 0);
        CHECK.same("too long", flow.take(inMain("(call main l)")), 7);
        CHECK.same("fault 7", flow.lookAt(1), 7);
        CHECK.same("no place for 7", flow.lookAt(2), LevelFlow.NONE);
        CHECK.same("definitions", flow.lookAt(3), 2);
        flow.feed(9);
        CHECK.output("old one goes on", flow, 9);
        CHECK.same("the fault stays", flow.lookAt(1), 7);
        CHECK.same("a new one", flow.take(oneInt("3")), 0);
        CHECK.same("no fault", flow.lookAt(1), 0);
        CHECK.same("no place", flow.lookAt(2), LevelFlow.NONE);
        CHECK.same("definitions of the new one", flow.lookAt(3), 1);
        CHECK.output("new one", flow, 3);
    }

    private static void arithmetic() {
        CHECK.edge(3, "values of operations, modulo 2^32, by 0, rounded towards 0");
        value("(add 2147483647 1)", -2147483648, 3);
        value("(add -2147483648 -1)", 2147483647, 3);
        value("(sub 3 10)", -7, 3);
        value("(sub -2147483648 1)", 2147483647, 3);
        value("(mul 65536 65536)", 0, 3);
        value("(mul 46341 46341)", -2147479015, 3);
        value("(mul -2147483648 -1)", -2147483648, 3);
        value("(div 7 2)", 3, 3);
        value("(div -7 2)", -3, 3);
        value("(div 7 -2)", -3, 3);
        value("(div -7 -2)", 3, 3);
        value("(div 7 0)", 0, 3);
        value("(div -2147483648 -1)", -2147483648, 3);
        value("(rem 7 2)", 1, 3);
        value("(rem -7 2)", -1, 3);
        value("(rem 7 -2)", 1, 3);
        value("(rem -7 0)", -7, 3);
        value("(rem -2147483648 -1)", 0, 3);
        value("(less 1 2)", 1, 3);
        value("(less 2 2)", 0, 3);
        value("(less -2147483648 2147483647)", 1, 3);
        value("(less 2147483647 -2147483648)", 0, 3);
        value("(same 5 5)", 1, 3);
        value("(same 5 -5)", 0, 3);
        value("(sub(mul 3 4)(div 9(add 1 2)))", 9, 9);
    }

    private static void choices() {
        CHECK.edge(3, "values of if and case");
        value("(if 1 2 3)", 2, 3);
        value("(if 0 2(add 3 4))", 7, 5);
        value("(if -1(add 3 4)2)", 7, 5);
        value("(if(less 2 1)1(if 0 2 3))", 3, 7);
        value("(case nil 5(h t h))", 5, 3);
        value("(case(cons 8(lmod(write nil)))5(h t(add h 1)))", 9, 9);
    }

    private static void variables() {
        CHECK.edge(3, "values of variables");
        value("(let x 4 x)", 4, 3);
        value("(let x 4(let x(add x 1)(mul x x)))", 25, 9);
        value("(add(let x 4 x)(let y 5 y))", 9, 7);
        value("(let x 1(add(let x 2 x)x))", 3, 7);
        value("(let a 1(let b 2(sub a b)))", -1, 7);
        valueWith("(fun f((a int)(b int))int(let c 100(sub(mul a c)b)))",
            "(let x 7(add(call f x 2)(let y 3(call f y x))))", 991, 25);
    }

    private static void lists() {
        CHECK.edge(3, "lists and modifiables");
        Flow flow = taken(inMainChangeable(
            "(read l x(case x(write nil)(h t(read t y(case y(write nil)(k u(write(cons(sub h k)u))))))))"), 9, 5, 3);
        CHECK.output("difference of two", flow, 4, 3);
        CHECK.same("its steps", flow.lookAt(8), 15);
        flow.feed(9);
        CHECK.same("of one", flow.lookAt(7), 0);
        CHECK.same("its steps", flow.lookAt(8), 11);
        flow.feed();
        CHECK.same("of none", flow.lookAt(7), 0);
        CHECK.same("its steps", flow.lookAt(8), 7);
        flow = taken(inMainChangeable("(read(imod(write 6))x(if(same x 6)(write(cons x l))(write nil)))"), 1);
        CHECK.output("imod", flow, 6, 1);
        CHECK.same("its steps", flow.lookAt(8), 13);
        flow = taken(inMain("(let a(lmod(write(cons 1 l)))(lmod(read a x(write x))))"), 2);
        CHECK.output("a modifiable of what another holds", flow, 1, 2);
        flow = taken(inMain("(lmod(write nil))"), 1, 2);
        CHECK.same("nil", flow.lookAt(7), 0);
        CHECK.same("three steps", flow.lookAt(8), 3);
    }

    private static void definitions() {
        CHECK.edge(3, "call, memo and jump");
        String fac = "(fun fac((n int))int(if(less n 1)1(mul n(call fac(sub n 1)))))";
        valueWith(fac, "(call fac 5)", 120, 57);
        valueWith(fac, "(memo fac 5)", 120, 57);
        String evens = "(fun even((n int))int(if n(call odd(sub n 1))1))(fun odd((n int))int(if n(call even(sub n 1))0))";
        valueWith(evens, "(call even 7)", 0, 47);
        valueWith("(fun one()int 1)", "(add(call one)(memo one))", 2, 5);
        String sum = "(fun sum((l lmod))imod(imod(read l x(jump go x 0))))"
            + "(chg go((x list)(s int))int(case x(write s)(h t(read t y(jump go y(add s h))))))";
        Flow flow = taken(sum + inMainChangeable("(read(call sum l)s(write(cons s l)))"), 3, 4, 5);
        CHECK.output("sum", flow, 12, 3, 4, 5);
        flow.feed(1);
        CHECK.output("sum of one", flow, 1, 1);
        flow = taken("(fun f(" + parameters(8, "") + ")int(sub(mul pa pb)(sub pg ph)))"
            + oneInt("(call f 3 4 0 0 0 0 8 9)"));
        CHECK.output("eight parameters", flow, 13);
    }

    private static void limit() {
        CHECK.edge(3, "7: more than 6000 steps");
        fault(7, inMain("(call main l)"));
        fault(7, "(chg f()list(jump f))" + inMainChangeable("(jump f)"));
        String down = "(fun f((n int))int(if n(call f(sub n 1))0))(fun a()int(call f 998))(fun b()int(call a))";
        valueWith(down, "(call f 998)", 0, 5993);
        valueWith(down, "(call a)", 0, 5994);
        fault(7, down + oneInt("(call b)"));
        fault(7, down + oneInt("(call f 1000000000)"));
    }

    /** The input decides how many steps there are: 6000 are taken, 6001 are not. */
    private static void limitOfBatches() {
        CHECK.edge(9, "6000 STEPS are applied, 6001 are refused");
        String down = "(fun a()list nil)(fun b()list(call a))"
            + "(chg d((n int))list(if n(jump d(sub n 1))(write(call a))))"
            + inMainChangeable("(read l x(case x(write nil)(h t(jump d h))))");
        Flow flow = taken(down, 0);
        CHECK.same("6000 steps", flow.feed(998), 0);
        CHECK.same("told", flow.lookAt(8), 6000);
        CHECK.same("6006 steps", flow.feed(999), -7);
        CHECK.same("as before", flow.lookAt(8), 6000);
        flow = taken(down.replace("(call a))))", "(call b))))"), 0);
        CHECK.same("6001 steps", flow.feed(998), -7);
        CHECK.same("5995 steps", flow.feed(997), 0);
        CHECK.same("told", flow.lookAt(8), 5995);
        CHECK.same("without an end", flow.feed(-1), -7);
    }
}
