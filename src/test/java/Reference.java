import java.util.ArrayList;
import java.util.HashMap;
import java.util.List;
import java.util.Map;
import java.util.Set;

/**
 * The document's texts and runs once more, as plainly as it can be written: by recursion, with a modifiable
 * as an object. It has no guard on its depth, so it is run on a thread with a large stack.
 */
final class Reference {
    static final int LIMIT = 6000;

    private static final Set<String> OPERATIONS = Set.of("add", "sub", "mul", "div", "rem", "less", "same");
    private static final Set<String> STABLE_WORDS = Set.of("add", "sub", "mul", "div", "rem", "less", "same",
        "if", "let", "case", "cons", "call", "memo", "imod", "lmod");
    private static final Set<String> CHANGEABLE_WORDS = Set.of("read", "write", "if", "let", "case", "jump");
    private static final Set<String> OTHER_WORDS = Set.of("nil", "int", "list", "imod", "lmod", "fun", "chg");
    private static final Set<String> TYPES = Set.of("int", "list", "imod", "lmod");

    /** A fault of a text. */
    static final class Fault extends Exception {
        private static final long serialVersionUID = 1L;
        final int kind;
        final int place;

        Fault(int kind, int place) {
            this.kind = kind;
            this.place = place;
        }
    }

    /** A run of more than LIMIT steps. */
    static final class TooLong extends Exception {
        private static final long serialVersionUID = 1L;
    }

    static final class Expression {
        String word;
        int place;
        String name;
        int namePlace;
        int number;
        List<String> variables = new ArrayList<>();
        List<Expression> parts = new ArrayList<>();
    }

    static final class Definition {
        boolean isFun;
        String name;
        int namePlace;
        List<String> parameters = new ArrayList<>();
        List<String> types = new ArrayList<>();
        String type;
        Expression body;
    }

    /** Holds an Integer, or a Cell, or null for NIL. */
    static final class Modifiable {
        Object held;
    }

    static final class Cell {
        int head;
        Modifiable tail;
    }

    private final String text;
    private int at;
    private String token;
    private int place;
    private final List<Definition> definitions = new ArrayList<>();
    private final Map<String, Definition> byName = new HashMap<>();
    private int steps;

    private Reference(String text) {
        this.text = text;
    }

    /** The definitions of a text without a fault of 1 to 6. */
    static Reference read(String text) throws Fault {
        Reference reference = new Reference(text);
        reference.readAll();
        reference.checkAll();
        return reference;
    }

    int definitions() {
        return definitions.size();
    }

    int steps() {
        return steps;
    }

    List<Integer> run(List<Integer> input) throws TooLong {
        steps = 0;
        Modifiable list = new Modifiable();
        for (int i = input.size() - 1; i >= 0; i--) {
            Cell cell = new Cell();
            cell.head = input.get(i);
            cell.tail = list;
            list = new Modifiable();
            list.held = cell;
        }
        Definition main = byName.get("main");
        Map<String, Object> scope = new HashMap<>();
        scope.put(main.parameters.get(0), list);
        Object held = ((Modifiable) evaluate(main.body, scope)).held;
        List<Integer> output = new ArrayList<>();
        while (held != null) {
            output.add(((Cell) held).head);
            held = ((Cell) held).tail.held;
        }
        return output;
    }

    // Tokens

    private boolean atEnd() {
        while (at < text.length() && (text.charAt(at) == ' ' || text.charAt(at) == '\n')) {
            at++;
        }
        return at == text.length();
    }

    private void next() throws Fault {
        if (atEnd()) {
            throw new Fault(3, text.length());
        }
        place = at;
        while (at < text.length() && "abcdefghijklmnopqrstuvwxyz0123456789-".indexOf(text.charAt(at)) >= 0) {
            at++;
        }
        if (at == place) {
            at++;
        }
        token = text.substring(place, at);
        boolean isOne = token.equals("(") || token.equals(")") || token.matches("[a-z]{1,12}") || isNumber();
        if (!isOne) {
            throw new Fault(1, place);
        }
    }

    private boolean isNumber() {
        return token.matches("-?[0-9]+")
            && new java.math.BigInteger(token).bitLength() <= 31;
    }

    private Fault misplaced() {
        return new Fault(2, place);
    }

    private void expect(String due) throws Fault {
        next();
        if (!token.equals(due)) {
            throw misplaced();
        }
    }

    private void nextName() throws Fault {
        next();
        if (!token.matches("[a-z]+") || STABLE_WORDS.contains(token) || CHANGEABLE_WORDS.contains(token)
            || OTHER_WORDS.contains(token)) {
            throw misplaced();
        }
    }

    private void nextType() throws Fault {
        next();
        if (!TYPES.contains(token)) {
            throw misplaced();
        }
    }

    // Faults 1 to 3

    private void readAll() throws Fault {
        while (!atEnd()) {
            expect("(");
            if (definitions.size() == 64) {
                throw misplaced();
            }
            definitions.add(readDefinition());
        }
    }

    private Definition readDefinition() throws Fault {
        Definition definition = new Definition();
        next();
        if (!token.equals("fun") && !token.equals("chg")) {
            throw misplaced();
        }
        definition.isFun = token.equals("fun");
        nextName();
        if (byName.containsKey(token)) {
            throw misplaced();
        }
        definition.name = token;
        definition.namePlace = place;
        byName.put(token, definition);
        expect("(");
        readParameters(definition);
        nextType();
        definition.type = token;
        if (!definition.isFun && !token.equals("int") && !token.equals("list")) {
            throw misplaced();
        }
        next();
        definition.body = readExpression(definition.isFun, definition.parameters.size());
        expect(")");
        return definition;
    }

    private void readParameters(Definition definition) throws Fault {
        next();
        while (!token.equals(")")) {
            if (!token.equals("(") || definition.parameters.size() == 8) {
                throw misplaced();
            }
            nextName();
            if (definition.parameters.contains(token)) {
                throw misplaced();
            }
            definition.parameters.add(token);
            nextType();
            definition.types.add(token);
            expect(")");
            next();
        }
    }

    /** The first token has been read; so many variables are there. */
    private Expression readExpression(boolean stable, int there) throws Fault {
        Expression e = new Expression();
        e.place = place;
        if (token.equals("(")) {
            next();
            if (!(stable ? STABLE_WORDS : CHANGEABLE_WORDS).contains(token)) {
                throw misplaced();
            }
            e.word = token;
            readParts(e, stable, there);
            return e;
        }
        if (!stable || token.equals(")")) {
            throw misplaced();
        }
        if (isNumber()) {
            e.word = "number";
            e.number = new java.math.BigInteger(token).intValue();
        } else if (token.equals("nil")) {
            e.word = "nil";
        } else if (STABLE_WORDS.contains(token) || CHANGEABLE_WORDS.contains(token) || OTHER_WORDS.contains(token)) {
            throw misplaced();
        } else {
            e.word = "variable";
            e.name = token;
        }
        return e;
    }

    private void part(Expression e, boolean stable, int there) throws Fault {
        next();
        e.parts.add(readExpression(stable, there));
    }

    private void newVariable(Expression e, int there) throws Fault {
        nextName();
        if (there >= 24) {
            throw misplaced();
        }
        e.variables.add(token);
    }

    private void readParts(Expression e, boolean stable, int there) throws Fault {
        switch (e.word) {
            case "if" -> {
                part(e, true, there);
                part(e, stable, there);
                part(e, stable, there);
            }
            case "let" -> {
                newVariable(e, there);
                part(e, true, there);
                part(e, stable, there + 1);
            }
            case "case" -> {
                part(e, true, there);
                part(e, stable, there);
                expect("(");
                newVariable(e, there);
                newVariable(e, there + 1);
                if (e.variables.get(0).equals(e.variables.get(1))) {
                    throw misplaced();
                }
                part(e, stable, there + 2);
                expect(")");
            }
            case "call", "memo", "jump" -> {
                nextName();
                e.name = token;
                e.namePlace = place;
                next();
                while (!token.equals(")")) {
                    e.parts.add(readExpression(true, there));
                    next();
                }
                return;
            }
            case "imod", "lmod" -> part(e, false, there);
            case "read" -> {
                part(e, true, there);
                newVariable(e, there);
                part(e, false, there + 1);
            }
            case "write" -> part(e, true, there);
            default -> {
                part(e, true, there);
                part(e, true, there);
            }
        }
        expect(")");
    }

    // Faults 4 to 6

    private void checkAll() throws Fault {
        if (definitions.isEmpty()) {
            throw new Fault(4, text.length());
        }
        Definition last = definitions.get(definitions.size() - 1);
        if (!last.name.equals("main") || !last.isFun || !last.types.equals(List.of("lmod")) || !last.type.equals("lmod")) {
            throw new Fault(4, last.namePlace);
        }
        for (Definition definition : definitions) {
            Map<String, String> scope = new HashMap<>();
            for (int k = 0; k < definition.parameters.size(); k++) {
                scope.put(definition.parameters.get(k), definition.types.get(k));
            }
            check(definition.body, scope, definition.type);
        }
    }

    private void check(Expression e, Map<String, String> scope, String due) throws Fault {
        if (!typeOf(e, scope).equals(due)) {
            throw new Fault(6, e.place);
        }
    }

    private static Map<String, String> with(Map<String, String> scope, String name, String type) {
        Map<String, String> wider = new HashMap<>(scope);
        wider.put(name, type);
        return wider;
    }

    private String typeOf(Expression e, Map<String, String> scope) throws Fault {
        switch (e.word) {
            case "number":
                return "int";
            case "nil":
                return "list";
            case "variable":
                if (!scope.containsKey(e.name)) {
                    throw new Fault(5, e.place);
                }
                return scope.get(e.name);
            case "if":
                check(e.parts.get(0), scope, "int");
                String then = typeOf(e.parts.get(1), scope);
                check(e.parts.get(2), scope, then);
                return then;
            case "let":
                String bound = typeOf(e.parts.get(0), scope);
                return typeOf(e.parts.get(1), with(scope, e.variables.get(0), bound));
            case "case":
                check(e.parts.get(0), scope, "list");
                String empty = typeOf(e.parts.get(1), scope);
                Map<String, String> wider = with(scope, e.variables.get(0), "int");
                check(e.parts.get(2), with(wider, e.variables.get(1), "lmod"), empty);
                return empty;
            case "cons":
                check(e.parts.get(0), scope, "int");
                check(e.parts.get(1), scope, "lmod");
                return "list";
            case "call", "memo", "jump":
                return typeOfUse(e, scope);
            case "imod":
                check(e.parts.get(0), scope, "int");
                return "imod";
            case "lmod":
                check(e.parts.get(0), scope, "list");
                return "lmod";
            case "read":
                String read = typeOf(e.parts.get(0), scope);
                if (!read.endsWith("mod")) {
                    throw new Fault(6, e.parts.get(0).place);
                }
                return typeOf(e.parts.get(1), with(scope, e.variables.get(0), read.equals("imod") ? "int" : "list"));
            case "write":
                String written = typeOf(e.parts.get(0), scope);
                if (written.endsWith("mod")) {
                    throw new Fault(6, e.parts.get(0).place);
                }
                return written;
            default:
                check(e.parts.get(0), scope, "int");
                check(e.parts.get(1), scope, "int");
                return "int";
        }
    }

    private String typeOfUse(Expression e, Map<String, String> scope) throws Fault {
        Definition used = byName.get(e.name);
        if (used == null || used.isFun == e.word.equals("jump") || used.types.size() != e.parts.size()) {
            throw new Fault(5, e.namePlace);
        }
        for (int k = 0; k < e.parts.size(); k++) {
            check(e.parts.get(k), scope, used.types.get(k));
        }
        return used.type;
    }

    // Runs. What a changeable expression writes is what its evaluation returns.

    private Object evaluate(Expression e, Map<String, Object> scope) throws TooLong {
        steps++;
        if (steps > LIMIT) {
            throw new TooLong();
        }
        if (OPERATIONS.contains(e.word)) {
            int first = (Integer) evaluate(e.parts.get(0), scope);
            int second = (Integer) evaluate(e.parts.get(1), scope);
            return operate(e.word, first, second);
        }
        switch (e.word) {
            case "number":
                return e.number;
            case "nil":
                return null;
            case "variable":
                return scope.get(e.name);
            case "if":
                boolean holds = (Integer) evaluate(e.parts.get(0), scope) != 0;
                return evaluate(e.parts.get(holds ? 1 : 2), scope);
            case "let":
                Map<String, Object> wider = new HashMap<>(scope);
                wider.put(e.variables.get(0), evaluate(e.parts.get(0), scope));
                return evaluate(e.parts.get(1), wider);
            case "case":
                return evaluateCase(e, scope);
            case "cons":
                Cell cell = new Cell();
                cell.head = (Integer) evaluate(e.parts.get(0), scope);
                cell.tail = (Modifiable) evaluate(e.parts.get(1), scope);
                return cell;
            case "imod", "lmod":
                Modifiable modifiable = new Modifiable();
                modifiable.held = evaluate(e.parts.get(0), scope);
                return modifiable;
            case "read":
                Map<String, Object> reading = new HashMap<>(scope);
                reading.put(e.variables.get(0), ((Modifiable) evaluate(e.parts.get(0), scope)).held);
                return evaluate(e.parts.get(1), reading);
            case "write":
                return evaluate(e.parts.get(0), scope);
            default:
                return evaluateUse(e, scope);
        }
    }

    private Object evaluateCase(Expression e, Map<String, Object> scope) throws TooLong {
        Cell cell = (Cell) evaluate(e.parts.get(0), scope);
        if (cell == null) {
            return evaluate(e.parts.get(1), scope);
        }
        Map<String, Object> wider = new HashMap<>(scope);
        wider.put(e.variables.get(0), cell.head);
        wider.put(e.variables.get(1), cell.tail);
        return evaluate(e.parts.get(2), wider);
    }

    private Object evaluateUse(Expression e, Map<String, Object> scope) throws TooLong {
        Definition used = byName.get(e.name);
        Map<String, Object> fresh = new HashMap<>();
        for (int k = 0; k < e.parts.size(); k++) {
            fresh.put(used.parameters.get(k), evaluate(e.parts.get(k), scope));
        }
        return evaluate(used.body, fresh);
    }

    private static int operate(String word, long first, long second) {
        switch (word) {
            case "add":
                return (int) (first + second);
            case "sub":
                return (int) (first - second);
            case "mul":
                return (int) (first * second);
            case "div":
                return second == 0 ? 0 : (int) (first / second);
            case "rem":
                return (int) (second == 0 ? first : first % second);
            case "less":
                return first < second ? 1 : 0;
            default:
                return first == second ? 1 : 0;
        }
    }
}
