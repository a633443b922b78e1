import java.util.ArrayList;
import java.util.List;
import java.util.Random;

/** Makes up programs: right ones, and ones with a token or byte that is another one. */
final class Maker {
    private static final String[] TYPES = {"int", "list", "imod", "lmod"};
    private static final String[] OPERATIONS = {"add", "sub", "mul", "div", "rem", "less", "same"};
    private static final String[] NUMBERS = {"0", "1", "2", "-1", "7", "-0", "0012", "2147483647", "-2147483648"};
    /** Has each form of definitions and expressions, with a blank between all tokens. */
    static final String ALL_FORMS =
        "( chg c ( ( a int ) ( b list ) ( i imod ) ( k lmod ) ) list "
        + "( read i x ( read k y ( if ( less x a ) ( write y ) ( let z -5 ( case b ( write nil ) "
        + "( h t ( jump c ( add z h ) y i t ) ) ) ) ) ) ) ) "
        + "( fun f ( ) imod ( imod ( write 0 ) ) ) "
        + "( fun main ( ( l lmod ) ) lmod ( if ( case nil 1 ( h t h ) ) "
        + "( let m ( call f ) ( lmod ( jump c 1 ( cons 2 l ) m l ) ) ) ( memo main l ) ) )";
    static final String[] TOKENS = {"(", ")", "nil", "int", "list", "imod", "lmod", "fun", "chg", "add", "sub",
        "if", "let", "case", "cons", "call", "memo", "read", "write", "jump", "main", "a", "b", "c", "fa", "fb", "0",
        "1", "2147483648", "x1", "l", "h", "x", "abcdefghijklm", "-", "#", "same"};
    private static final String[] KNOWN = {
        "(chg mapc((l list))list(case l(write nil)(h t(write(cons(add(mul h 3)1)(memo map t))))))"
            + "(fun map((l lmod))lmod(lmod(read l x(jump mapc x))))",
        "(chg filc((l list))list(case l(write nil)(h t(if(less(rem h 5)3)(write(cons h(memo fil t)))"
            + "(read(memo fil t)r(write r))))))(fun fil((l lmod))lmod(lmod(read l x(jump filc x))))",
        "(chg sumc((l list)(s int))int(case l(write s)(h t(read t u(jump sumc u(add s h))))))"
            + "(fun sum((l lmod))lmod(lmod(read(imod(read l x(jump sumc x 0)))s(write(cons s l)))))",
        "(chg revc((l list)(r lmod))list(case l(read r q(write q))(h t(read t u(jump revc u(lmod(write(cons h r))))))))"
            + "(fun rev((l lmod))lmod(lmod(read l x(jump revc x(lmod(write nil))))))",
        "(chg insc((h int)(l list))list(case l(write(cons h(lmod(write nil))))(k t(if(less h k)"
            + "(write(cons h(lmod(write l))))(write(cons k(lmod(read t u(jump insc h u)))))))))"
            + "(chg sortc((l list))list(case l(write nil)(h t(read(call sort t)s(jump insc h s)))))"
            + "(fun sort((l lmod))lmod(lmod(read l x(jump sortc x))))",
        "(chg lopc((l list))list(case l(write nil)(h t(if(less h 90)(write(cons h(memo lop t)))(jump lopc l)))))"
            + "(fun lop((l lmod))lmod(lmod(read l x(jump lopc x))))"};
    private static final String[] KNOWN_NAMES = {"map", "fil", "sum", "rev", "sort", "lop"};

    private final Random random;
    private final List<Made> made = new ArrayList<>();
    private StringBuilder text;

    /** A definition that those behind it can use. */
    private static final class Made {
        boolean isFun;
        String name;
        String type;
        List<String> types = new ArrayList<>();
    }

    /** The variables that are there, the latest one last. */
    private static final class Scope {
        final List<String> names = new ArrayList<>();
        final List<String> types = new ArrayList<>();

        Scope with(String name, String type) {
            Scope wider = new Scope();
            wider.names.addAll(names);
            wider.types.addAll(types);
            wider.names.add(name);
            wider.types.add(type);
            return wider;
        }
    }

    Maker(Random random) {
        this.random = random;
    }

    String program() {
        text = new StringBuilder();
        made.clear();
        int known = random.nextInt(KNOWN.length * 2);
        if (known < KNOWN.length) {
            text.append(KNOWN[known]);
            Made lists = new Made();
            lists.isFun = true;
            lists.name = KNOWN_NAMES[known];
            lists.type = "lmod";
            lists.types.add("lmod");
            made.add(lists);
        }
        int count = random.nextInt(4);
        for (int k = 0; k < count; k++) {
            definition("f" + (char) ('a' + k));
        }
        text.append("(fun main((l lmod))lmod ");
        stable(new Scope().with("l", "lmod"), "lmod", 4);
        return text.append(")").toString();
    }

    String knownProgram() {
        int known = random.nextInt(KNOWN.length);
        return KNOWN[known] + "(fun main((l lmod))lmod(call " + KNOWN_NAMES[known] + " l))";
    }

    String withFault(String right) {
        List<String> tokens = split(right);
        if (random.nextInt(3) > 0) {
            changeExpression(tokens);
        } else {
            change(tokens);
        }
        StringBuilder changed = new StringBuilder();
        for (String token : tokens) {
            changed.append(token).append(random.nextInt(3) == 0 ? "\n" : " ");
        }
        if (random.nextInt(8) == 0) {
            changed.setCharAt(random.nextInt(changed.length()), (char) random.nextInt(256));
        }
        if (random.nextInt(8) == 0) {
            changed.setLength(random.nextInt(changed.length()));
        }
        return changed.toString();
    }

    private void change(List<String> tokens) {
        int at = random.nextInt(tokens.size());
        switch (random.nextInt(6)) {
            case 0:
                tokens.remove(at);
                tokens.add(")");
                break;
            case 1:
                tokens.add(at, TOKENS[random.nextInt(TOKENS.length)]);
                break;
            case 2:
                tokens.add(at, tokens.get(random.nextInt(tokens.size())));
                break;
            case 3:
                swapLike(tokens, at);
                break;
            default:
                swapLeaf(tokens, at);
        }
    }

    /** Puts a whole expression in place of another one: mostly the types are wrong then, not the form. */
    private void changeExpression(List<String> tokens) {
        int at = expressionFrom(tokens, random.nextInt(tokens.size()));
        int other = expressionFrom(tokens, random.nextInt(tokens.size()));
        List<String> put = new ArrayList<>(tokens.subList(other, endOf(tokens, other)));
        tokens.subList(at, endOf(tokens, at)).clear();
        tokens.addAll(at, put);
    }

    private static int expressionFrom(List<String> tokens, int from) {
        for (int at = from; at > 0; at--) {
            String before = tokens.get(at - 1);
            boolean isStart = !tokens.get(at).equals(")") && !before.equals("(");
            if (isStart && !List.of("fun", "chg", "call", "memo", "jump", "let").contains(before)) {
                return at;
            }
        }
        return 0;
    }

    private static int endOf(List<String> tokens, int from) {
        int open = 0;
        for (int at = from; at < tokens.size(); at++) {
            open += tokens.get(at).equals("(") ? 1 : tokens.get(at).equals(")") ? -1 : 0;
            if (open <= 0) {
                return at + 1;
            }
        }
        return tokens.size();
    }

    private void swapLike(List<String> tokens, int at) {
        int other = random.nextInt(tokens.size());
        String token = tokens.get(at);
        tokens.set(at, tokens.get(other));
        tokens.set(other, token);
    }

    /** Leaves the parentheses alone, so that faults behind those of the form are seen, too. */
    private void swapLeaf(List<String> tokens, int at) {
        for (int k = at; k < tokens.size(); k++) {
            if (!tokens.get(k).equals("(") && !tokens.get(k).equals(")")) {
                String[] leaves = {"nil", "l", "1", "a", "fa", "fb", "map", "int", "lmod", "call", "main", "c"};
                tokens.set(k, leaves[random.nextInt(leaves.length)]);
                return;
            }
        }
    }

    private static List<String> split(String text) {
        return new ArrayList<>(List.of(text.replace("(", " ( ").replace(")", " ) ").trim().split("\\s+")));
    }

    private void definition(String name) {
        Made next = new Made();
        next.isFun = random.nextBoolean();
        next.name = name;
        next.type = TYPES[random.nextInt(next.isFun ? 4 : 2)];
        Scope scope = new Scope();
        text.append(next.isFun ? "(fun " : "(chg ").append(name).append('(');
        int count = random.nextInt(4);
        for (int k = 0; k < count; k++) {
            String type = TYPES[random.nextInt(4)];
            next.types.add(type);
            scope = scope.with("p" + (char) ('a' + k), type);
            text.append("(p").append((char) ('a' + k)).append(' ').append(type).append(')');
        }
        text.append(')').append(next.type).append(' ');
        if (next.isFun) {
            stable(scope, next.type, 4);
        } else {
            changeable(scope, next.type, 4);
        }
        text.append(')');
        made.add(next);
    }

    private String newName() {
        return String.valueOf((char) ('a' + random.nextInt(5)));
    }

    private String anyType() {
        return TYPES[random.nextInt(4)];
    }

    private void stable(Scope scope, String type, int depth) {
        int choice = depth <= 0 ? 0 : random.nextInt(8);
        switch (choice) {
            case 0:
                if (!variable(scope, type)) {
                    plain(scope, type, depth);
                }
                break;
            case 1:
                text.append("(if ");
                stable(scope, "int", depth - 1);
                text.append(' ');
                stable(scope, type, depth - 1);
                text.append(' ');
                stable(scope, type, depth - 1);
                text.append(')');
                break;
            case 2:
                let(scope, type, depth, true);
                break;
            case 3:
                choose(scope, type, depth, true);
                break;
            case 4:
            case 5:
                if (!use(scope, type, depth, true)) {
                    plain(scope, type, depth);
                }
                break;
            default:
                plain(scope, type, depth);
        }
    }

    /** An expression that is of the type by itself. */
    private void plain(Scope scope, String type, int depth) {
        switch (type) {
            case "int" -> {
                if (depth <= 0) {
                    text.append(NUMBERS[random.nextInt(NUMBERS.length)]);
                    return;
                }
                text.append('(').append(OPERATIONS[random.nextInt(OPERATIONS.length)]).append(' ');
                stable(scope, "int", depth - 1);
                text.append(' ');
                stable(scope, "int", depth - 1);
                text.append(')');
            }
            case "list" -> {
                if (depth <= 0) {
                    text.append("nil");
                    return;
                }
                text.append("(cons ");
                stable(scope, "int", depth - 1);
                text.append(' ');
                stable(scope, "lmod", depth - 1);
                text.append(')');
            }
            default -> {
                text.append('(').append(type).append(' ');
                changeable(scope, type.equals("imod") ? "int" : "list", depth - 1);
                text.append(')');
            }
        }
    }

    private boolean variable(Scope scope, String type) {
        List<String> fitting = new ArrayList<>();
        for (int k = 0; k < scope.names.size(); k++) {
            String name = scope.names.get(k);
            if (scope.types.get(k).equals(type) && scope.names.lastIndexOf(name) == k) {
                fitting.add(name);
            }
        }
        if (fitting.isEmpty()) {
            return false;
        }
        text.append(fitting.get(random.nextInt(fitting.size())));
        return true;
    }

    private void either(Scope scope, String type, int depth, boolean isStable) {
        if (isStable) {
            stable(scope, type, depth);
        } else {
            changeable(scope, type, depth);
        }
    }

    private void let(Scope scope, String type, int depth, boolean isStable) {
        String bound = anyType();
        String name = newName();
        text.append("(let ").append(name).append(' ');
        stable(scope, bound, depth - 1);
        text.append(' ');
        either(scope.with(name, bound), type, depth - 1, isStable);
        text.append(')');
    }

    private void choose(Scope scope, String type, int depth, boolean isStable) {
        text.append("(case ");
        stable(scope, "list", depth - 1);
        text.append(' ');
        either(scope, type, depth - 1, isStable);
        text.append("(h t ");
        either(scope.with("h", "int").with("t", "lmod"), type, depth - 1, isStable);
        text.append("))");
    }

    private boolean use(Scope scope, String type, int depth, boolean isFun) {
        List<Made> fitting = new ArrayList<>();
        for (Made one : made) {
            if (one.isFun == isFun && one.type.equals(type)) {
                fitting.add(one);
            }
        }
        if (fitting.isEmpty()) {
            return false;
        }
        Made used = fitting.get(random.nextInt(fitting.size()));
        text.append(!isFun ? "(jump " : random.nextBoolean() ? "(call " : "(memo ").append(used.name);
        for (String operand : used.types) {
            text.append(' ');
            stable(scope, operand, depth - 1);
        }
        text.append(')');
        return true;
    }

    private void changeable(Scope scope, String type, int depth) {
        int choice = depth <= 0 ? 0 : random.nextInt(7);
        switch (choice) {
            case 1, 2 -> {
                String held = random.nextBoolean() ? "int" : "list";
                String name = newName();
                text.append("(read ");
                stable(scope, held.equals("int") ? "imod" : "lmod", depth - 1);
                text.append(' ').append(name).append(' ');
                changeable(scope.with(name, held), type, depth - 1);
                text.append(')');
            }
            case 3 -> {
                text.append("(if ");
                stable(scope, "int", depth - 1);
                text.append(' ');
                changeable(scope, type, depth - 1);
                text.append(' ');
                changeable(scope, type, depth - 1);
                text.append(')');
            }
            case 4 -> let(scope, type, depth, false);
            case 5 -> choose(scope, type, depth, false);
            default -> {
                if (choice == 6 && use(scope, type, depth, false)) {
                    return;
                }
                text.append("(write ");
                stable(scope, type, depth - 1);
                text.append(')');
            }
        }
    }
}
