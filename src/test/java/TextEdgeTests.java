import java.util.List;

/** Promise 3, one case for each edge of texts that the document names: the faults 1 to 6. */
public final class TextEdgeTests extends Texts {
    private static final String ALL_FORMS = Maker.ALL_FORMS;

    private TextEdgeTests() {
    }

    public static void main(String[] args) {
        namesOfOneToTwelve();
        namesOfThirteen();
        namesThatAreNearlyTheSame();
        lettersFromAToZ();
        numbersAtTheirBounds();
        numbersBeyondTheirBounds();
        numbersOfAnyLength();
        numbersThatAreNone();
        everyByteBehindName();
        everyByteAheadOfAll();
        everyByteBehindAll();
        blanks();
        wordsOneBehindTheOther();
        badBytesAheadOfBadTokens();
        noDefinition();
        definitionsUpToSixtyFour();
        sixtyFifthDefinition();
        parametersUpToEight();
        ninthParameter();
        typesOfChg();
        definitionsOfOneName();
        parametersOfOneName();
        headAndTailOfOneName();
        definitionsUseAll();
        nilByItself();
        wordsOfTheOtherLevel();
        anotherTokenHasToBe();
        variablesUpToTwentyFour();
        twentyFifthVariable();
        hiddenVariablesCount();
        variablesThatHaveGone();
        endsAtEachToken();
        tokensBehindAll();
        mainAsSaid();
        variablesOutsideOfTheirPlace();
        operandsTooFewOrTooMany();
        definitionsOfTheOtherLevel();
        typesOfParts();
        typesOfTwoParts();
        typesOfWholes();
        formsAheadOfMain();
        mainAheadOfTypes();
        definitionByDefinition();
        CHECK.end("TextEdgeTests");
    }

    // Tokens

    private static void namesOfOneToTwelve() {
        CHECK.edge(3, "a NAME has 1 to 12 letters");
        for (int length = 1; length <= 12; length++) {
            String name = "zyxwvutsrqpo".substring(0, length);
            taken("(fun main((" + name + " lmod))lmod " + name + ")");
            valueWith("(fun " + name + "()int 5)", "(call " + name + ")", 5, 2);
            value("(let " + name + " 6 " + name + ")", 6, 3);
        }
    }

    private static void namesOfThirteen() {
        CHECK.edge(3, "fault 1: a NAME of more than 12 letters, at its first one");
        for (String name : new String[] {"abcdefghijklm", "mainmainmainm", "lmodlmodlmodl", "z".repeat(24),
            "a".repeat(25), "x".repeat(2000)}) {
            fault(1, "(fun @" + name + "()int 1)");
            fault(1, "(fun f((@" + name + " int))int 1)");
            fault(1, "(fun f()@" + name);
            fault(1, inMain("@" + name));
            fault(1, inMain("(@" + name + " 1)"));
            fault(1, inMain("(call @" + name + ")"));
        }
    }

    private static void namesThatAreNearlyTheSame() {
        CHECK.edge(3, "NAMES that differ in one letter are different");
        String[] names = {"aaaaaaaaaaaa", "baaaaaaaaaaa", "aaaaaaaaaaab", "aaaaaabaaaaa", "aaaaaaaaaaa", "zzzzzzzzzzzz",
            "azzzzzzzzzzz", "zzzzzzzzzzz", "z", "a", "aa"};
        StringBuilder definitions = new StringBuilder();
        for (int k = 0; k < names.length; k++) {
            definitions.append("(fun ").append(names[k]).append("()int ").append(k).append(")");
        }
        for (int k = 0; k < names.length; k++) {
            valueWith(definitions.toString(), "(call " + names[k] + ")", k, 2);
        }
        value("(let zzzzzzzzzzzz 1(let azzzzzzzzzzz 2(let zzzzzzzzzzza 3 zzzzzzzzzzzz)))", 1, 7);
    }

    private static void lettersFromAToZ() {
        CHECK.edge(3, "letters are a .. z");
        for (char c = 'a'; c <= 'z'; c++) {
            value("(let " + c + " 3 " + c + ")", 3, 3);
        }
        for (char c = 'A'; c <= 'Z'; c++) {
            fault(1, inMain("@" + c));
            fault(1, inMain("l@" + c));
        }
        for (char c : new char[] {'`', '{', '_', '\u00e4', '\u00df'}) {
            fault(1, inMain("@" + c));
            fault(1, inMain("l@" + c));
        }
    }

    private static void numbersAtTheirBounds() {
        CHECK.edge(3, "a NUMBER is from -2147483648 to 2147483647");
        value("2147483647", 2147483647, 1);
        value("2147483646", 2147483646, 1);
        value("-2147483648", -2147483648, 1);
        value("-2147483647", -2147483647, 1);
        value("0", 0, 1);
        value("-0", 0, 1);
        value("-1", -1, 1);
        value("9", 9, 1);
    }

    private static void numbersBeyondTheirBounds() {
        CHECK.edge(3, "fault 1: a NUMBER beyond -2147483648 to 2147483647, at its first byte");
        String[] beyond = {"2147483648", "-2147483649", "2147483650", "-2147483650", "2147483657", "3000000000",
            "4294967295", "4294967296", "4294967297", "-4294967295", "-4294967296", "9223372036854775807", "9223372036854775808",
            "-9223372036854775808", "18446744073709551615", "18446744073709551616", "18446744073709551617",
            "-18446744073709551617", "0002147483648", "-0002147483649", "1" + "0".repeat(10), "1" + "0".repeat(64),
            "-1" + "0".repeat(64), "9".repeat(500)};
        for (String number : beyond) {
            fault(1, oneInt("@" + number));
        }
    }

    private static void numbersOfAnyLength() {
        CHECK.edge(3, "a NUMBER is of any length, 0s ahead or not");
        value("0".repeat(3000) + "7", 7, 1);
        value("-" + "0".repeat(3000) + "2147483648", -2147483648, 1);
        value("0".repeat(3000), 0, 1);
        value("-" + "0".repeat(3000), 0, 1);
        value("0002147483647", 2147483647, 1);
        value("00", 0, 1);
        value("-01", -1, 1);
    }

    private static void numbersThatAreNone() {
        CHECK.edge(3, "fault 1: a NUMBER that is none, at the first of letters, digits and - one behind the other");
        for (String none : new String[] {"-", "--", "--1", "1-", "1-1", "-1-", "-1-1", "1a", "a1", "-a", "a-", "a-1",
            "1a1", "-1a", "00a", "abc0", "0x1", "1e1", "-0-", "l1", "nil0", "z9", "9z"}) {
            fault(1, oneInt("@" + none));
        }
    }

    private static boolean isBlank(int b) {
        return b == 32 || b == 10;
    }

    private static boolean isLetter(int b) {
        return b >= 97 && b <= 122;
    }

    private static boolean isDigit(int b) {
        return b >= 48 && b <= 57;
    }

    private static void takenOrFault(int kind, int place, String text) {
        if (kind == 0) {
            taken(text);
        } else {
            faultAt(kind, place, text);
        }
    }

    private static void everyByteBehindName() {
        CHECK.edge(3, "fault 1: a byte that belongs to no TOKEN, behind a NAME");
        String ahead = "(fun main((l lmod))lmod l";
        for (int b = 0; b < 256; b++) {
            String text = ahead + (char) b + ")";
            if (isBlank(b)) {
                taken(text);
            } else if (isLetter(b)) {
                faultAt(5, ahead.length() - 1, text);
            } else if (isDigit(b) || b == '-') {
                faultAt(1, ahead.length() - 1, text);
            } else if (b == ')') {
                faultAt(2, ahead.length() + 1, text);
            } else {
                faultAt(b == '(' ? 2 : 1, ahead.length(), text);
            }
        }
    }

    private static void everyByteAheadOfAll() {
        CHECK.edge(3, "fault 1: a byte that belongs to no TOKEN, ahead of all");
        for (int b = 0; b < 256; b++) {
            boolean isToken = b == ')' || isLetter(b) || isDigit(b);
            int kind = isBlank(b) ? 0 : isToken || b == '(' ? 2 : 1;
            takenOrFault(kind, b == '(' ? 1 : 0, (char) b + MAIN);
        }
    }

    private static void everyByteBehindAll() {
        CHECK.edge(3, "fault 1: a byte that belongs to no TOKEN, behind all");
        for (int b = 0; b < 256; b++) {
            boolean isToken = b == ')' || isLetter(b) || isDigit(b);
            int kind = isBlank(b) ? 0 : b == '(' ? 3 : isToken ? 2 : 1;
            takenOrFault(kind, b == '(' ? MAIN.length() + 1 : MAIN.length(), MAIN + (char) b);
        }
    }

    private static void blanks() {
        CHECK.edge(3, "blanks and ends of lines stand between TOKENS as one likes");
        CHECK.same("with a blank between all", taken(ALL_FORMS).lookAt(3), 3);
        CHECK.same("with ends of lines", taken(ALL_FORMS.replace(" ", "\n")).lookAt(3), 3);
        CHECK.same("with two of each", taken(ALL_FORMS.replace(" ", " \n\n ")).lookAt(3), 3);
        CHECK.same("around all", taken(" \n " + ALL_FORMS + "\n  \n").lookAt(3), 3);
        String narrow = ALL_FORMS.replace("( ", "(").replace(" (", "(").replace(" )", ")").replace(") ", ")");
        CHECK.same("without those that have not to be", taken(narrow).lookAt(3), 3);
        taken(" ".repeat(4000) + MAIN);
        for (String other : new String[] {"\t", "\r", "\f", "\u000b", "\u00a0", "\0", ",", ";"}) {
            fault(1, "(fun@" + other + "main((l lmod))lmod l)");
        }
    }

    private static void wordsOneBehindTheOther() {
        CHECK.edge(3, "blanks have to stand between NAMES and NUMBERS");
        fault(2, "(@funmain((l lmod))lmod l)");
        fault(2, "(fun main((llmod@))lmod l)");
        fault(2, "(fun main((l lmod))@lmodl)");
        fault(1, oneInt("(@add1 2)"));
        fault(2, oneInt("(add 12@)"));
        fault(1, oneInt("(add @1-2)"));
        fault(1, oneInt("(let x 1(add @x-1))"));
        value("(add(add 1 2)3)", 6, 5);
    }

    private static void badBytesAheadOfBadTokens() {
        CHECK.edge(3, "each TOKEN is looked at for 1 and then for 2");
        for (String bad : new String[] {"#", "1a", "-", "2147483648", "abcdefghijklm", "A"}) {
            fault(1, "@" + bad);
            fault(1, "(@" + bad);
            fault(1, "(fun @" + bad);
            fault(1, "(fun f @" + bad);
            fault(1, "(fun f(@" + bad);
            fault(1, "(fun f((@" + bad);
            fault(1, "(fun f((x @" + bad);
            fault(1, "(fun f((x int @" + bad);
            fault(1, "(fun f((x int)@" + bad);
            fault(1, "(fun f()@" + bad);
            fault(1, "(chg f()@" + bad);
            fault(1, "(fun f()int @" + bad);
            fault(1, "(chg f()int @" + bad);
            fault(1, "(fun f()int 1 @" + bad);
            fault(1, MAIN + "@" + bad);
            fault(1, definitions(64) + "@" + bad);
            fault(1, "(fun f(" + parameters(8, "") + "@" + bad);
            fault(1, inMain(lets(23, "(let @" + bad)));
        }
    }

    // Definitions

    private static void noDefinition() {
        CHECK.edge(3, "fault 4: there is no DEFINITION, at the text's length");
        fault(4, "@");
        fault(4, " @");
        fault(4, "\n@");
        fault(4, " \n \n@");
        fault(4, " ".repeat(4000) + "@");
    }

    private static void definitionsUpToSixtyFour() {
        CHECK.edge(3, "up to 64 DEFINITIONS");
        for (int count : new int[] {0, 1, 2, 31, 62, 63}) {
            CHECK.same("definitions", taken(definitions(count) + MAIN).lookAt(3), count + 1);
        }
        CHECK.same("the first of 64 is used", taken(definitions(63) + oneInt("(call faa)")).outputAt(0), 1);
        CHECK.same("the 63rd of 64 is used", taken(definitions(63) + oneInt("(call fck)")).outputAt(0), 1);
        fault(2, definitions(63) + "(fun @fck()int 1)");
        fault(5, definitions(63) + oneInt("(call @fcl)"));
        fault(6, definitions(62) + "(fun fck()int @nil)" + MAIN);
    }

    private static void sixtyFifthDefinition() {
        CHECK.edge(3, "fault 2: more than 64 DEFINITIONS, at the ( of the one that is too many");
        fault(2, definitions(64) + "@" + MAIN);
        fault(2, definitions(64) + "  \n@(");
        fault(2, definitions(64) + "@)");
        fault(2, definitions(64) + "@1");
        fault(2, definitions(63) + MAIN + "@" + MAIN);
        fault(4, definitions(63) + "(fun @fcl()int 1)  \n");
        fault(2, definitions(64) + "@(fun other()int 1)" + MAIN);
    }

    private static void parametersUpToEight() {
        CHECK.edge(3, "up to 8 parameters");
        for (int count = 0; count <= 8; count++) {
            String operands = " 1 2 3 4 5 6 7 8".substring(0, 2 * count);
            String last = count == 0 ? "9" : "p" + (char) ('a' + count - 1);
            String sum = count == 0 ? "9" : "(sub(mul pa 100)" + last + ")";
            int due = count == 0 ? 9 : 100 - count;
            int steps = 1 + count + (count == 0 ? 1 : 5);
            valueWith("(fun f(" + parameters(count, "") + ")int " + sum + ")", "(call f" + operands + ")", due, steps);
            valueWith("(fun f(" + parameters(count, "") + ")int " + sum + ")", "(memo f" + operands + ")", due, steps);
            Flow flow = taken("(chg f(" + parameters(count, "") + ")list(write(cons " + sum + "(lmod(write nil)))))"
                + inMainChangeable("(jump f" + operands + ")"));
            CHECK.output("a chg of " + count, flow, due);
            CHECK.same("its steps", flow.lookAt(8), steps + 6);
        }
    }

    private static void ninthParameter() {
        CHECK.edge(3, "fault 2: more than 8 parameters, at the ( of the one that is too many");
        fault(2, "(fun f(" + parameters(9, "@") + ")int 1)" + MAIN);
        fault(2, "(chg f(" + parameters(9, "@") + ")int(write 1))" + MAIN);
        fault(2, "(fun f(" + parameters(12, "@") + ")int 1)" + MAIN);
        fault(2, "(fun f(" + parameters(8, "") + " \n@(");
        fault(2, "(fun f(" + parameters(8, "") + "@(pa int))int 1)" + MAIN);
        fault(2, "(fun f(" + parameters(8, "") + "@(#");
        fault(2, "(fun main((l lmod)" + parameters(8, "").replace("(ph", "@(ph") + ")lmod l)");
    }

    private static void typesOfChg() {
        CHECK.edge(3, "fault 2: a TYPE of a chg that is neither int nor list");
        taken("(chg f()int(write 1))" + MAIN);
        taken("(chg f()list(write nil))" + MAIN);
        fault(2, "(chg f()@imod(write 1))" + MAIN);
        fault(2, "(chg f()@lmod(write nil))" + MAIN);
        fault(2, "(chg main((l lmod))@lmod(read l x(write x)))");
        for (String type : new String[] {"int", "list", "imod", "lmod"}) {
            taken("(chg f((x " + type + "))int(write 1))" + MAIN);
            taken("(fun f((x " + type + "))" + type + " x)" + MAIN);
        }
        for (String none : new String[] {"nil", "fun", "chg", "add", "f", "ints", "in", "lmodl", "mod", "0"}) {
            fault(2, "(fun f((x @" + none + "))int 1)" + MAIN);
            fault(2, "(fun f()@" + none + " 1)" + MAIN);
            fault(2, "(chg f()@" + none + "(write 1))" + MAIN);
        }
    }

    private static void definitionsOfOneName() {
        CHECK.edge(3, "fault 2: DEFINITIONS of one NAME, the second one, as soon as it is read");
        fault(2, "(fun f()int 1)(fun @f()int 1)" + MAIN);
        fault(2, "(fun f()int 1)(chg @f()int(write 1))" + MAIN);
        fault(2, "(chg f()int(write 1))(fun @f()int 1)" + MAIN);
        fault(2, "(chg f()int(write 1))(chg @f()int(write 1))" + MAIN);
        fault(2, "(fun f()int 1)(fun g()int 1)(fun @f()int 1)" + MAIN);
        fault(2, MAIN + "(fun @main((l lmod))lmod l)");
        fault(2, "(fun f()int 1)(fun @f#");
        fault(2, "(fun f()int 1)(fun @f");
        fault(2, "(fun aaaaaaaaaaaa()int 1)(fun @aaaaaaaaaaaa()int 1)" + MAIN);
    }

    private static void parametersOfOneName() {
        CHECK.edge(3, "fault 2: parameters of one NAME, the second one, as soon as it is read");
        fault(2, "(fun f((a int)(@a int))int 1)" + MAIN);
        fault(2, "(fun f((a int)(@a lmod))int 1)" + MAIN);
        fault(2, "(chg f((a int)(b int)(@a int))int(write 1))" + MAIN);
        fault(2, "(fun f(" + parameters(7, "") + "(@pa int))int 1)" + MAIN);
        fault(2, "(fun f((a int)(@a#");
        fault(2, "(fun f((a int)(@a");
        taken("(fun f((a int))int a)(fun g((a lmod))lmod a)" + MAIN);
        taken("(fun f((f int)(g int))int f)(fun g((f int)(g int))int g)" + MAIN);
        taken("(fun main((main lmod))lmod main)");
    }

    private static void headAndTailOfOneName() {
        CHECK.edge(3, "fault 2: HEAD and TAIL of one NAME, the second one, as soon as it is read");
        fault(2, inMain("(case nil l(h @h l))"));
        fault(2, inMainChangeable("(case nil(write nil)(h @h(write nil)))"));
        fault(2, inMain("(let h 1(case nil l(h @h l)))"));
        fault(2, "(fun f()int(case nil 1(h @h#");
        fault(2, "(fun f()int(case nil 1(h @h");
        taken(inMain("(let t 1(case nil l(h t t)))"));
        taken(inMain("(let h 1(case nil l(h t t)))"));
        taken(inMain("(case nil l(l t t))"));
        taken(inMain("(case nil l(h l l))"));
    }

    private static void definitionsUseAll() {
        CHECK.edge(3, "a DEFINITION can use all, also itself and those behind it");
        valueWith("(fun f((n int))int(if n(call f(sub n 1))(call g)))(fun g()int 8)", "(call f 2)", 8, 18);
        taken("(fun f((l lmod))lmod(call main l))" + MAIN);
        Flow flow = taken("(chg a((x list))list(jump b x))(chg b((x list))list(write x))"
            + inMainChangeable("(read l x(jump a x))"), 4);
        CHECK.output("a chg behind it", flow, 4);
        CHECK.same("its steps", flow.lookAt(8), 9);
    }

    private static void nilByItself() {
        CHECK.edge(3, "nil is an EXPRESSION by itself");
        taken(inMainChangeable("(write nil)"));
        fault(2, inMainChangeable("(write(@nil))"));
        fault(2, inMainChangeable("@nil"));
        fault(2, inMain("(let @nil 1 l)"));
        fault(2, inMain("(call @nil)"));
    }

    private static final List<String> STABLE_WORDS = List.of("add", "sub", "mul", "div", "rem", "less", "same",
        "if", "let", "case", "cons", "call", "memo", "imod", "lmod");
    private static final List<String> CHANGEABLE_WORDS = List.of("read", "write", "if", "let", "case", "jump");

    private static void wordsOfTheOtherLevel() {
        CHECK.edge(3, "fault 2: a word that is none, where E, C or a DEFINITION has to be");
        for (String word : new String[] {"add", "sub", "mul", "div", "rem", "less", "same", "if", "let", "case", "cons",
            "call", "memo", "imod", "lmod", "read", "write", "jump", "nil", "int", "list", "fun", "chg", "foo", "ad",
            "adds", "main", "l", "f", "x"}) {
            wordBegins(STABLE_WORDS.contains(word), "(fun f()int(", word);
            wordBegins(STABLE_WORDS.contains(word), "(fun f()int(add 1(", word);
            wordBegins(STABLE_WORDS.contains(word), "(chg f()int(write(", word);
            wordBegins(STABLE_WORDS.contains(word), "(chg f()int(if(", word);
            wordBegins(STABLE_WORDS.contains(word), "(chg f()int(jump f(", word);
            wordBegins(STABLE_WORDS.contains(word), "(fun f()int(if 1(", word);
            wordBegins(CHANGEABLE_WORDS.contains(word), "(chg f()int(", word);
            wordBegins(CHANGEABLE_WORDS.contains(word), "(fun f()int(imod(", word);
            wordBegins(CHANGEABLE_WORDS.contains(word), "(chg f()int(if 1(", word);
            wordBegins(CHANGEABLE_WORDS.contains(word), "(chg f()int(let x 1(", word);
            wordBegins(CHANGEABLE_WORDS.contains(word), "(chg f()int(case nil(write 1)(h t(", word);
            wordBegins(CHANGEABLE_WORDS.contains(word), "(chg f()int(read x y(", word);
            wordBegins(word.equals("fun") || word.equals("chg"), "(", word);
            wordBegins(word.equals("fun") || word.equals("chg"), MAIN + "(", word);
        }
    }

    private static void wordBegins(boolean isOne, String ahead, String word) {
        if (isOne) {
            fault(3, ahead + word + "@");
        } else {
            fault(2, ahead + "@" + word);
        }
    }

    /** Each row is a text up to a place, and the tokens that can not be there. */
    private static void anotherTokenHasToBe() {
        CHECK.edge(3, "fault 2: a TOKEN that can not be there, another one has to be");
        String[][] rows = {
            {"", ") 1 nil fun x"},
            {"(", "( ) 1 nil x add"},
            {"(fun", "( ) 1 nil int"},
            {"(fun f", ") 1 nil x int"},
            {"(fun f(", "1 nil x int"},
            {"(fun f((", "( ) 1 nil int"},
            {"(fun f((x", "( ) 1 nil x fun"},
            {"(fun f((x int", "( 1 nil x int"},
            {"(fun f((x int)", "1 nil x int"},
            {"(fun f((x int))", "( ) 1 nil x fun"},
            {"(fun f()", "( ) 1 nil x fun"},
            {"(chg f((x int))", "( ) 1 nil x imod lmod chg"},
            {"(fun f()int", ") int list imod lmod fun chg add read"},
            {"(chg f()int", ") 1 nil x int read write"},
            {"(fun f()int 1", "( 1 nil x int"},
            {"(chg f()int(write 1)", "( 1 nil x int"},
            {"(fun f()int(", "( ) 1 nil x int"},
            {"(chg f()int(", "( ) 1 nil x int"},
            {"(fun f()int(add", ") add int"},
            {"(fun f()int(add 1", ") add int"},
            {"(fun f()int(add 1 2", "( 1 nil x int"},
            {"(fun f()int(if", ") if"},
            {"(fun f()int(if 1", ") if"},
            {"(fun f()int(if 1 2", ") if"},
            {"(fun f()int(if 1 2 3", "( 1 nil x if"},
            {"(fun f()int(let", "( ) 1 nil let"},
            {"(fun f()int(let x", ") let"},
            {"(fun f()int(let x 1", ") let"},
            {"(fun f()int(let x 1 2", "( 1 nil x let"},
            {"(fun f()int(case", ") case"},
            {"(fun f()int(case nil", ") case"},
            {"(fun f()int(case nil 1", ") 1 nil x case"},
            {"(fun f()int(case nil 1(", "( ) 1 nil case"},
            {"(fun f()int(case nil 1(h", "( ) 1 nil case h"},
            {"(fun f()int(case nil 1(h t", ") case"},
            {"(fun f()int(case nil 1(h t 2", "( 1 nil x case"},
            {"(fun f()int(case nil 1(h t 2)", "( 1 nil x case"},
            {"(fun f()list(cons", ") cons"},
            {"(fun f()list(cons 1", ") cons"},
            {"(fun f()list(cons 1 2", "( 1 nil x cons"},
            {"(fun f()int(call", "( ) 1 nil call"},
            {"(fun f()int(call f", "call int"},
            {"(fun f()int(memo", "( ) 1 nil memo"},
            {"(fun f()int(memo f 1", "memo fun"},
            {"(fun f()imod(imod", ") 1 nil x imod"},
            {"(fun f()imod(imod(write 1)", "( 1 nil x imod"},
            {"(fun f()lmod(lmod", ") 1 nil x lmod"},
            {"(fun f()lmod(lmod(write 1)", "( 1 nil x lmod"},
            {"(chg f()int(read", ") read"},
            {"(chg f()int(read x", "( ) 1 nil read"},
            {"(chg f()int(read x y", ") 1 nil x read"},
            {"(chg f()int(read x y(write y)", "( 1 nil x read"},
            {"(chg f()int(write", ") write"},
            {"(chg f()int(write 1", "( 1 nil x write"},
            {"(chg f()int(if 1", ") 1 nil x if"},
            {"(chg f()int(if 1(write 1)", ") 1 nil x if"},
            {"(chg f()int(if 1(write 1)(write 1)", "( 1 nil x if"},
            {"(chg f()int(let x", ") let"},
            {"(chg f()int(let x 1", ") 1 nil x let"},
            {"(chg f()int(let x 1(write 1)", "( 1 nil x let"},
            {"(chg f()int(case nil", ") 1 nil x case"},
            {"(chg f()int(case nil(write 1)", ") 1 nil x case"},
            {"(chg f()int(case nil(write 1)(h t", ") 1 nil x case"},
            {"(chg f()int(case nil(write 1)(h t(write 1)", "( 1 nil x case"},
            {"(chg f()int(jump", "( ) 1 nil jump"},
            {"(chg f()int(jump f", "jump chg"},
            {MAIN, ") 1 nil x fun"},
        };
        for (String[] row : rows) {
            for (String token : row[1].split(" ")) {
                fault(2, row[0] + " @" + token);
                fault(2, row[0] + "\n@" + token + " #");
            }
            if (!row[0].isEmpty() && !row[0].equals(MAIN)) {
                fault(3, row[0] + "@");
            }
        }
    }

    // Variables

    private static void variablesUpToTwentyFour() {
        CHECK.edge(3, "24 variables may be there at once");
        taken(inMain(lets(23, "l")));
        taken(inMain(lets(21, "(case nil l(h t t))")));
        taken(inMain(lets(22, "(lmod(read l y(write y)))")));
        String eight = "(fun f(" + parameters(8, "") + ")int ";
        valueWith(eight + lets(16, "(add pa ph)") + ")", "(call f 1 2 3 4 5 6 7 8)", 9, 44);
        valueWith(eight + lets(14, "(case nil x(h t h))") + ")", "(call f 1 2 3 4 5 6 7 8)", 13, 40);
        taken("(chg f(" + parameters(8, "") + ")int" + lets(15, "(read(imod(write 1))y(write(add y ph)))") + ")" + MAIN);
    }

    private static void twentyFifthVariable() {
        CHECK.edge(3, "fault 2: more than 24 variables, the NAME");
        fault(2, inMain(lets(23, "(let @y 1 l)")));
        fault(2, inMain(lets(23, "(let @y(let z 1 z)l)")));
        fault(2, inMain(lets(23, "(let @y#")));
        fault(2, inMain(lets(23, "(case nil l(@h t t))")));
        fault(2, inMain(lets(22, "(case nil l(h @t t))")));
        fault(2, inMain(lets(22, "(case nil l(h @h t))")));
        fault(2, inMain(lets(23, "(lmod(read l @y(write y)))")));
        fault(2, inMain(lets(22, "(lmod(let y 1(read l @z(write z))))")));
        String eight = "(fun f(" + parameters(8, "") + ")int ";
        fault(2, eight + lets(16, "(let @y 1 1)") + ")" + MAIN);
        fault(2, eight + lets(15, "(case nil 1(h @t 1))") + ")" + MAIN);
        fault(2, eight + lets(16, "(case nil 1(@h t 1))") + ")" + MAIN);
        fault(2, "(chg f(" + parameters(8, "") + ")int" + lets(16, "(read(imod(write 1))@y(write y))") + ")" + MAIN);
        fault(2, inMain(lets(23, "(let @add 1 l)")));
    }

    private static void hiddenVariablesCount() {
        CHECK.edge(3, "variables that are hidden count, too");
        fault(2, inMain(lets(23, "(let @x 1 l)")));
        fault(2, inMain(lets(23, "(let @l 1 l)")));
        fault(2, inMain(lets(22, "(case nil l(x @l l))")));
        fault(2, inMain(lets(23, "(lmod(read l @x(write x)))")));
    }

    private static void variablesThatHaveGone() {
        CHECK.edge(3, "variables that are not there any more, or not yet, do not count");
        taken(inMain(lets(22, "(let y(let z 1 z)l)")));
        fault(2, inMain(lets(22, "(let y(let z(let u 1 u)(let @v 1 z))l)")));
        taken(inMain("(let y(add" + lets(23, "x") + lets(23, "x") + ")l)"));
        taken(inMain("(if" + lets(23, "x") + lets(23, "l") + lets(23, "l") + ")"));
        taken(inMain("(case nil" + lets(23, "l") + "(h t" + lets(21, "t") + "))"));
        fault(2, inMain("(case nil" + lets(23, "l") + "(h t" + lets(21, "(let @y 1 t)") + "))"));
        taken(inMain("(let y(case nil 1(h t h))" + lets(22, "l") + ")"));
        taken(inMain("(let y(imod(read(imod(write 1))z(write z)))" + lets(22, "l") + ")"));
        fault(2, inMain("(let y(imod(read(imod(write 1))z(write z)))" + lets(22, "(let @x 1 l)") + ")"));
        taken("(fun f((x int))int" + lets(23, "x") + ")(fun g((x int))int" + lets(23, "x") + ")" + inMain(lets(23, "l")));
        fault(2, "(fun f((x int))int" + lets(23, "x") + ")(fun g((x int))int" + lets(23, "(let @y 1 y)") + ")" + MAIN);
    }

    // Ends

    private static void endsAtEachToken() {
        CHECK.edge(3, "fault 3: the text ends where a TOKEN has to be, at its length");
        String[] tokens = ALL_FORMS.split(" ");
        StringBuilder text = new StringBuilder();
        int open = 0;
        int namePlace = 0;
        for (int k = 0; k < tokens.length - 1; k++) {
            if (k > 0 && (tokens[k - 1].equals("fun") || tokens[k - 1].equals("chg"))) {
                namePlace = text.length();
            }
            text.append(tokens[k]);
            open += tokens[k].equals("(") ? 1 : tokens[k].equals(")") ? -1 : 0;
            boolean isWhole = open == 0;
            faultAt(isWhole ? 4 : 3, isWhole ? namePlace : text.length(), text.toString());
            faultAt(isWhole ? 4 : 3, isWhole ? namePlace : text.length() + 3, text + " \n ");
            text.append(' ');
        }
        CHECK.same("the whole text", taken(ALL_FORMS).lookAt(3), 3);
    }

    private static void tokensBehindAll() {
        CHECK.edge(3, "fault 2: a TOKEN behind a DEFINITION that is no (");
        fault(2, MAIN + "@)");
        fault(2, MAIN + "@l");
        fault(2, MAIN + " @nil");
        fault(2, MAIN + "\n@0");
        fault(2, MAIN + "@fun f()int 1)");
        fault(2, MAIN + "(@)");
        fault(2, MAIN + "(@(fun f()int 1))");
        fault(3, MAIN + "(@");
    }

    // Main

    private static void mainAsSaid() {
        CHECK.edge(3, "fault 4: the last DEFINITION is not main as said, at its NAME");
        fault(4, "(fun @mai((l lmod))lmod l)");
        fault(4, "(fun @mainm((l lmod))lmod l)");
        fault(4, "(fun @nain((l lmod))lmod l)");
        fault(4, "(chg @main((l lmod))list(read l x(write x)))");
        fault(4, "(chg @main((l lmod))int(write 1))");
        fault(4, "(fun @main()lmod(lmod(write nil)))");
        fault(4, "(fun @main((l lmod)(k int))lmod l)");
        fault(4, "(fun @main((k int)(l lmod))lmod l)");
        fault(4, "(fun @main((l lmod)(k lmod))lmod l)");
        for (String type : new String[] {"int", "list", "imod"}) {
            fault(4, "(fun @main((l " + type + "))lmod(lmod(write nil)))");
            fault(4, "(fun @main((l lmod))" + type + " l)");
        }
        fault(4, MAIN + "(fun @f()int 1)");
        fault(4, MAIN + "(fun @last((l lmod))lmod l)");
        fault(4, "(fun f((l lmod))lmod l)(fun @g((l lmod))lmod l)");
        taken("(fun f()int 1)(fun main((anyname lmod))lmod anyname)");
    }

    // Faults 5

    private static void variablesOutsideOfTheirPlace() {
        CHECK.edge(3, "fault 5: a variable that is not there, at its NAME");
        fault(5, inMain("@x"));
        fault(5, inMain("@ll"));
        fault(5, inMain("(let x @x l)"));
        fault(5, inMain("(let x(let y 1 y)@y)"));
        fault(5, inMain("(case nil @h(h t t))"));
        fault(5, inMain("(case nil @t(h t t))"));
        fault(5, inMain("(case @t l(h t t))"));
        fault(5, inMain("(let a(case nil 1(h t h))@t)"));
        fault(5, inMainChangeable("(read @x x(write x))"));
        fault(5, inMainChangeable("(if 1(read l x(write x))(write @x))"));
        fault(5, inMainChangeable("(case nil(write @t)(h t(write nil)))"));
        fault(5, "(fun f((a int))int a)" + inMain("(let b @a l)"));
        fault(5, "(fun f()int @l)" + MAIN);
        fault(5, "(fun f()int @f)" + MAIN);
        fault(5, "(fun f()int 1)" + inMain("(let b @f l)"));
    }

    private static void operandsTooFewOrTooMany() {
        CHECK.edge(3, "fault 5: an F with another number of operands, at its NAME, ahead of its operands");
        for (int count = 0; count <= 8; count++) {
            String definitions = "(fun f(" + parameters(count, "") + ")int 1)(chg g(" + parameters(count, "") + ")list(write nil))";
            for (int given = 0; given <= 20; given++) {
                String operands = " 1".repeat(given);
                if (given == count) {
                    taken(definitions + oneInt("(call f" + operands + ")"));
                    taken(definitions + oneInt("(memo f" + operands + ")"));
                    taken(definitions + inMainChangeable("(jump g" + operands + ")"));
                } else {
                    fault(5, definitions + oneInt("(call @f" + operands + ")"));
                    fault(5, definitions + oneInt("(memo @f" + operands + ")"));
                    fault(5, definitions + inMainChangeable("(jump @g" + operands + ")"));
                }
            }
        }
        fault(5, inMain("(call @main)"));
        fault(5, inMain("(call @main l l)"));
        fault(5, inMain("(call @main zz l)"));
        fault(5, inMain("(call @main(add nil nil)l)"));
        fault(5, inMain("(call main @zz)"));
        fault(5, inMain("(call @main(call main)(call main))"));
        fault(5, "(fun f((a int)(b int))lmod(call main(lmod(write nil))))" + inMain("(call @f(add 1 2))"));
    }

    private static void definitionsOfTheOtherLevel() {
        CHECK.edge(3, "fault 5: an F that is no fun or chg, as it is used, at its NAME");
        fault(5, inMain("(call @f)"));
        fault(5, inMain("(memo @f)"));
        fault(5, inMainChangeable("(jump @f)"));
        fault(5, inMain("(call @l l)"));
        fault(5, inMain("(call @mainn l)"));
        fault(5, inMainChangeable("(jump @main l)"));
        fault(5, "(chg f((l lmod))list(read l x(write x)))" + inMain("(call @f l)"));
        fault(5, "(chg f((l lmod))list(read l x(write x)))" + inMain("(memo @f l)"));
        fault(5, "(fun f()list nil)" + inMainChangeable("(jump @f)"));
        fault(5, inMain("(call @f zz(add nil nil))"));
    }

    // Faults 6

    /** Expressions of each type, none of which needs a variable but l. */
    private static final String[] OF_TYPES = {"7", "nil", "(imod(write 1))", "(lmod(write nil))"};
    private static final List<String> TYPES = List.of("int", "list", "imod", "lmod");

    private static void partHasToBe(String type, String around) {
        for (int k = 0; k < OF_TYPES.length; k++) {
            if (TYPES.get(k).equals(type)) {
                taken(inMain(around.replace("?", OF_TYPES[k])));
            } else {
                fault(6, inMain(around.replace("?", "@" + OF_TYPES[k])));
            }
        }
    }

    private static void typesOfParts() {
        CHECK.edge(3, "fault 6: a part of another TYPE than it has to be, at its first TOKEN");
        for (String word : new String[] {"add", "sub", "mul", "div", "rem", "less", "same"}) {
            partHasToBe("int", "(let x(" + word + " ? 1)l)");
            partHasToBe("int", "(let x(" + word + " 1 ?)l)");
        }
        partHasToBe("int", "(if ? l l)");
        partHasToBe("int", "(lmod(if ?(write nil)(write nil)))");
        partHasToBe("list", "(case ? l(h t t))");
        partHasToBe("list", "(lmod(case ?(write nil)(h t(write nil))))");
        partHasToBe("int", "(let x(cons ? l)l)");
        partHasToBe("lmod", "(let x(cons 1 ?)l)");
        partHasToBe("lmod", "?");
        for (String type : TYPES) {
            for (int k = 0; k < OF_TYPES.length; k++) {
                boolean isRight = TYPES.get(k).equals(type);
                String mark = isRight ? "" : "@";
                String uses = "(chg c((a int)(b " + type + "))list(write nil))"
                    + "(fun f((a int)(b " + type + "))lmod(lmod(write nil)))";
                for (String use : new String[] {"(call f 1 ?)", "(memo f 1 ?)", "(lmod(jump c 1 ?))"}) {
                    expect(isRight, uses + inMain(use.replace("?", mark + OF_TYPES[k])));
                }
                expect(isRight, "(fun f()" + type + " " + mark + OF_TYPES[k] + ")" + MAIN);
            }
        }
    }

    private static void expect(boolean isRight, String marked) {
        if (isRight) {
            taken(marked);
        } else {
            fault(6, marked);
        }
    }

    private static void typesOfTwoParts() {
        CHECK.edge(3, "fault 6: of an if or case the last part, if its TYPE is not that of the one before");
        for (int first = 0; first < OF_TYPES.length; first++) {
            for (int last = 0; last < OF_TYPES.length; last++) {
                String mark = first == last ? "" : "@";
                String parts = OF_TYPES[first] + " " + mark + OF_TYPES[last];
                expect(first == last, inMain("(let x(if 1 " + parts + ")l)"));
                parts = OF_TYPES[first] + "(h t " + mark + OF_TYPES[last] + ")";
                expect(first == last, inMain("(let x(case nil " + parts + ")l)"));
            }
        }
        taken(inMainChangeable("(if 1(write nil)(write nil))"));
        taken(inMain("(let x(imod(if 1(write 1)(write 2)))l)"));
        fault(6, inMainChangeable("(if 1(write nil)@(write 1))"));
        fault(6, inMainChangeable("(if 1(write 1)@(write nil))"));
        fault(6, inMainChangeable("(case nil(write nil)(h t @(write h)))"));
        fault(6, inMainChangeable("(case nil(write 1)(h t @(write nil)))"));
        fault(6, inMain("(if 1 1 @(if 1 l l))"));
    }

    private static void typesOfWholes() {
        CHECK.edge(3, "fault 6: what is written or read, the C of imod and lmod, what a DEFINITION says");
        fault(6, inMainChangeable("(write @l)"));
        fault(6, inMainChangeable("(write @(imod(write 1)))"));
        fault(6, inMain("(let x(imod(write @l))l)"));
        fault(6, inMainChangeable("(read @1 x(write nil))"));
        fault(6, inMainChangeable("(read @nil x(write nil))"));
        fault(6, inMainChangeable("(read @(cons 1 l)x(write zz))"));
        taken(inMainChangeable("(read l x(write x))"));
        taken(inMainChangeable("(read(imod(write 1))x(write(cons x l)))"));
        fault(6, inMain("(lmod @(read(imod(write 1))x(write x)))"));
        fault(6, inMain("(let y(imod @(read l x(write x)))l)"));
        fault(6, inMain("(lmod @(write 1))"));
        fault(6, inMain("(let y(imod @(write nil))l)"));
        fault(6, inMain("(lmod @(if 1(write 1)(write 1)))"));
        fault(6, inMain("(lmod @(let x nil(write 1)))"));
        fault(6, "(chg f()int(write 1))" + inMain("(lmod @(jump f))"));
        fault(6, "(chg f()list(write nil))" + inMain("(let y(imod @(jump f))l)"));
        fault(6, "(chg f()int @(write nil))" + MAIN);
        fault(6, "(chg f()list @(write 1))" + MAIN);
        fault(6, "(chg f()list @(jump g))(chg g()int(write 1))" + MAIN);
        fault(6, "(fun f()int 1)" + inMain("@(call f)"));
        fault(6, inMain("@(cons 1 l)"));
        fault(6, inMain("@(let x l 1)"));
        fault(6, inMain("@(if 1 2 3)"));
        fault(6, inMain("@(case nil 2(h t h))"));
    }

    // Which one is the first

    private static void formsAheadOfMain() {
        CHECK.edge(3, "faults 1 to 3 are told ahead of 4, wherever they are");
        fault(1, "(fun f()int zz)@#");
        fault(2, "(fun f()int zz)@)");
        fault(3, "(fun f()int zz)(@");
        fault(1, "(fun main((l int))lmod nil)@-");
        fault(2, "(fun main((l int))lmod nil)(@main");
        fault(3, "(fun main((l int))lmod(add nil zz)@");
        fault(1, "@#)(");
        fault(2, "@)#(");
        fault(2, "(fun f()int 1 @2 #");
        fault(1, "(fun f()int 1 @# 2");
    }

    private static void mainAheadOfTypes() {
        CHECK.edge(3, "fault 4 is told ahead of 5 and 6, wherever they are");
        fault(4, "(fun f()int zz)(fun @g()int nil)");
        fault(4, "(fun f()int nil)(fun @main()lmod 1)");
        fault(4, "(fun f()int(call g))(fun @main((l lmod))int zz)");
    }

    private static void definitionByDefinition() {
        CHECK.edge(3, "5 and 6 are told DEFINITION by DEFINITION, in the order of the text, parts ahead of wholes");
        fault(5, "(fun f()int @zz)(fun g()int nil)" + MAIN);
        fault(6, "(fun f()int @nil)(fun g()int zz)" + MAIN);
        fault(6, "(fun f()int @nil)" + inMain("zz"));
        fault(5, inMain("(add @zz nil)"));
        fault(6, inMain("(add @nil zz)"));
        fault(5, inMain("(add(add 1 @zz)nil)"));
        fault(6, inMain("(add @(cons 1 l)zz)"));
        fault(6, inMain("(add 1 @nil)"));
        fault(5, inMain("(if 1 2(if 1 nil @zz))"));
        fault(6, inMain("(if 1 nil(if 1 2 @nil))"));
        fault(5, inMain("(case nil 1(h t(cons h @zz)))"));
        fault(6, inMain("(case @1 zz(h t zz))"));
        fault(5, inMain("(let x @zz nil)"));
        fault(6, inMain("(let x(add 1 @nil)zz)"));
        fault(5, inMainChangeable("(write(cons 1 @zz))"));
        fault(5, inMainChangeable("(read(imod(write @zz))x(write l))"));
        fault(5, inMain("(call main(cons 1 @zz))"));
        fault(6, inMain("(call main @(cons 1 l))"));
        fault(6, "(fun f((a int)(b int))lmod(call f 1 1))" + inMain("(call f @l zz)"));
        fault(5, "(fun f((a int)(b int))lmod(call f 1 1))" + inMain("(call f 1 @zz)"));
        fault(6, "(fun f((a int)(b int))int(call f 1 1))" + inMain("(call f 1 @nil)"));
        fault(6, "(fun f((a int)(b int))int(call f 1 1))" + inMain("@(call f 1 1)"));
        fault(5, inMain("(lmod(if 1(write 1)(write @zz)))"));
    }
}
