import java.util.Random;

/** Writes texts that mostly make sense: every WORD gets inputs of its kinds, most of the time. */
final class Author {
    private static final String[] EDGES = {"1000000000", "-1000000000", "999999999", "0", "-0", "007", "1000", "-1000", "1001", "30000", "30001"};
    private static final String[] NAMES = {"a", "b", "c", "n", "l", "x"};
    private static final String[] TAGS = {"error", "t", "u", "a"};
    private static final String[] STRAY = {"(", ")", "[", "]", "+", "-", "*", "/", "=", "<", ">", "to", "end", "\"", ":", "zz", "?", "stop", "error",
        "5a", "-5a", "\"-", "\"1000000001", "\"12", ":nobody", "[]", "pu", "--5", ";x\n", "\"true", "A", "output", "5", "\"w"};

    private final Random random;
    private int left;

    Author(Random random) {
        this.random = random;
    }

    private boolean one(int in) {
        return random.nextInt(in) == 0;
    }

    private String of(String... texts) {
        return texts[random.nextInt(texts.length)];
    }

    private String some() {
        return NAMES[random.nextInt(NAMES.length)];
    }

    private String procedureName() {
        return "p" + random.nextInt(5);
    }

    /** With this, most NAMES have a VALUE and most CALLS a procedure. */
    static final String FIRST_PROCEDURES = "to p0 fd 7 rt 30 type repcount catch \"error [type ?] end to p1 :a output :a + :n end to p2 :a :b output list :a :b end "
            + "to p3 :x if :x > 9 [stop] local \"l make \"l :x p3 :x + 1 end to p4 :a :b repeat 3 [if repcount = 2 [output repcount] print :a] end";
    static final String FIRST_LINE = "make \"a 3 make \"b [1 2] make \"c \"hello make \"n 5 make \"l [a [b c] 3] make \"x -7";
    private static final int[] INPUTS = {0, 1, 2, 1, 2};

    String line() {
        left = 4 + random.nextInt(one(3) ? 120 : 25);
        return spoil(instructions(1 + random.nextInt(5), 0));
    }

    /** WORDS in no order at all. */
    String soup() {
        StringBuilder text = new StringBuilder();
        int count = 1 + random.nextInt(one(3) ? 60 : 12);
        for (int i = 0; i < count; i++) {
            text.append(one(4) ? of(STRAY) : one(2) ? of(TextEdgesTest.APPLIED) : any(8)).append(one(9) ? "" : " ");
        }
        return text.length() > 3990 ? text.substring(0, 3990) : text.toString();
    }

    String procedures() {
        StringBuilder text = new StringBuilder();
        int count = 1 + random.nextInt(4);
        for (int i = 0; i < count; i++) {
            left = 3 + random.nextInt(25);
            int number = random.nextInt(INPUTS.length);
            text.append("to p").append(number);
            int inputs = one(6) ? random.nextInt(7) : INPUTS[number];
            for (int k = 0; k < inputs; k++) {
                text.append(" :").append(one(40) ? some() : NAMES[k]);
            }
            text.append(' ').append(instructions(1 + random.nextInt(3), 0));
            text.append(one(2) ? " output " + any(2) : "").append(" end\n");
        }
        return spoil(text.toString());
    }

    /** One in three texts is changed at some places, so that ERRORS and FAULTS come where none was meant. */
    private String spoil(String text) {
        if (random.nextInt(3) > 0) {
            return text;
        }
        StringBuilder spoiled = new StringBuilder(text);
        int times = 1 + random.nextInt(3);
        for (int i = 0; i < times; i++) {
            int at = spoiled.lastIndexOf(" ", random.nextInt(spoiled.length() + 1)) + 1;
            int end = spoiled.indexOf(" ", at);
            if (one(3) && end > at) {
                spoiled.delete(at, end + 1);
            } else {
                spoiled.insert(at, of(STRAY) + (one(8) ? "" : " "));
            }
        }
        return spoiled.length() > 3990 ? spoiled.substring(0, 3990) : spoiled.toString();
    }

    private String instructions(int count, int depth) {
        StringBuilder text = new StringBuilder();
        for (int i = 0; i < count; i++) {
            text.append(i > 0 ? " " : "").append(instruction(depth + 1));
        }
        return text.toString();
    }

    private String block(int depth) {
        return "[" + (one(12) ? "" : instructions(1 + random.nextInt(3), depth)) + "]";
    }

    /** A LIST that gives what the text gives, perhaps behind something else. */
    private String giving(String text, int depth) {
        return "[" + (one(4) ? instruction(depth + 1) + " " : "") + text + (one(30) ? " pu" : "") + "]";
    }

    private String instruction(int depth) {
        left--;
        boolean flat = left < 0 || depth > 7;
        switch (random.nextInt(flat ? 14 : 34)) {
            case 0: return "fd " + number(depth);
            case 1: return "bk " + number(depth);
            case 2: return of("rt ", "lt ", "seth ") + turn(depth);
            case 3: return of("pu", "pd", "pd", "home", "clean");
            case 4: return "setpen " + small(8, depth);
            case 5: return "place " + number(depth) + " " + number(depth);
            case 6: return "tell " + small(8, depth);
            case 7: case 8: return "make \"" + some() + " " + any(depth);
            case 9: return of("print ", "show ", "type ") + any(depth);
            case 10: return "fd " + random.nextInt(40);
            case 11: return "local \"" + some();
            case 12: return "throw \"" + of(TAGS);
            case 13: return one(3) ? "stop" : "output " + any(depth);
            case 14: case 15: return "if " + truth(depth) + " " + block(depth);
            case 16: case 17: return "repeat " + (one(6) ? number(depth) : random.nextInt(6)) + " " + block(depth);
            case 18: return "while " + giving(truth(depth), depth) + " " + block(depth);
            case 19: return "make \"n 0 while " + giving(":n < " + random.nextInt(6), depth) + " [" + instruction(depth + 1) + " make \"n :n + 1]";
            case 20: case 21: return "foreach " + list(depth) + " " + block(depth);
            case 22: case 23: return "ask " + small(8, depth) + " " + block(depth);
            case 24: case 25: return "catch \"" + of(TAGS) + " " + block(depth);
            case 26: return "ifelse " + truth(depth) + " " + block(depth) + " " + block(depth);
            case 27: return "run " + block(depth);
            case 28: case 29: case 30: return call(depth);
            case 31: return "( " + instruction(depth + 1) + " )";
            case 32: return "define \"" + procedureName() + " [[" + of("", "a", "a b", "x", "a a", "1", ":a", "a b c n l", "a b c n l x") + "] " + block(depth) + "]";
            default: return "make " + word(depth) + " " + any(depth);
        }
    }

    private String call(int depth) {
        int number = random.nextInt(INPUTS.length);
        StringBuilder text = new StringBuilder("p" + number);
        int inputs = one(10) ? random.nextInt(4) : INPUTS[number];
        for (int i = 0; i < inputs; i++) {
            text.append(' ').append(one(3) ? any(depth + 2) : number(depth + 2));
        }
        return text.toString();
    }

    private String turn(int depth) {
        return one(8) ? number(depth) : "" + 30 * (random.nextInt(30) - 15);
    }

    private String small(int below, int depth) {
        return one(12) ? number(depth) : "" + random.nextInt(below);
    }

    private String any(int depth) {
        switch (random.nextInt(6)) {
            case 0: case 1: return number(depth);
            case 2: return list(depth);
            case 3: return word(depth);
            case 4: return truth(depth);
            default: return ":" + some();
        }
    }

    private String number(int depth) {
        left--;
        if (left < 0 || depth > 9 || one(3)) {
            switch (random.nextInt(6)) {
                case 0: return of(EDGES);
                case 1: return ":" + some();
                case 2: return of("repcount", "who", "heading", "xcor", "ycor", "pen", "dot", "error", one(3) ? "?" : "repcount");
                default: return "" + (random.nextInt(60) - 20);
            }
        }
        int d = depth + 1;
        switch (random.nextInt(17)) {
            case 0: return of("sum ", "difference ", "product ", "quotient ", "remainder ") + number(d) + " " + number(d);
            case 1: case 2: return number(d) + of(" + ", " - ", " * ", " / ", "+", "*", "-") + number(d);
            case 3: return "( " + number(d) + of(" + ", " - ", " * ", " / ") + number(d) + " )";
            case 4: return "- " + number(d);
            case 5: return "minus " + number(d);
            case 6: return "random " + (one(3) ? number(d) : "" + (1 + random.nextInt(50)));
            case 7: return "count " + any(d);
            case 8: return "item " + small(4, d) + " " + list(d);
            case 9: return of("first ", "last ") + list(d);
            case 10: return "ifelse " + truth(d) + " " + giving(number(d), d) + " " + giving(number(d), d);
            case 11: return of("run ", "ask 3 ", "catch \"t ", "catch \"error ") + giving(number(d), d);
            case 12: return "arity \"" + procedureName();
            case 13: return "thing " + word(d);
            case 14: return "word " + number(d) + " " + number(d);
            case 15: return call(d);
            default: return "(" + number(d) + ")";
        }
    }

    private String truth(int depth) {
        left--;
        if (left < 0 || depth > 9) {
            return of("\"true", "\"false");
        }
        int d = depth + 1;
        switch (random.nextInt(13)) {
            case 0: return number(d) + of(" < ", " > ", " = ") + number(d);
            case 1: return of("lessp ", "greaterp ") + number(d) + " " + number(d);
            case 2: return "equalp " + any(d) + " " + any(d);
            case 3: return any(d) + " = " + any(d);
            case 4: return of("and ", "or ") + truth(d) + " " + truth(d);
            case 5: return "not " + truth(d);
            case 6: return of("listp ", "wordp ", "numberp ") + any(d);
            case 7: return "emptyp " + list(d);
            case 8: return "memberp " + any(d) + " " + list(d);
            case 9: return "namep " + word(d);
            case 10: return "same " + small(8, d) + " " + small(8, d);
            case 11: return call(d);
            default: return of("\"true", "\"false", "( 1 = 1 )");
        }
    }

    private String word(int depth) {
        left--;
        if (left < 0 || depth > 9 || !one(4)) {
            return "\"" + of("a", "b", "c", "n", "l", "x", "hello", "A", "true", "false", "error", "p0", "p1", "12", "fd", "a:b", ":x", "\"y");
        }
        return one(2) ? "word " + word(depth + 1) + " " + (one(2) ? word(depth + 1) : number(depth + 1)) : "first " + list(depth + 1);
    }

    private String literal(int depth) {
        StringBuilder text = new StringBuilder("[");
        int count = random.nextInt(5);
        for (int i = 0; i < count; i++) {
            text.append(i > 0 ? " " : "").append(one(4) && depth < 8 ? literal(depth + 1) : of("1", "2", "-3", "a", "b", "+", "true", "0", "hello", "\"q", ":a", "-", "fd"));
        }
        return text.append(']').toString();
    }

    private String list(int depth) {
        left--;
        if (left < 0 || depth > 9 || one(3)) {
            return one(4) ? ":" + some() : literal(depth);
        }
        int d = depth + 1;
        switch (random.nextInt(10)) {
            case 0: return of("butfirst ", "butlast ", "reverse ") + list(d);
            case 1: return of("fput ", "lput ") + any(d) + " " + list(d);
            case 2: return "sentence " + any(d) + " " + any(d);
            case 3: return "list " + any(d) + " " + any(d);
            case 4: case 5: return "map " + list(d) + " " + giving(one(2) ? "list ? " + any(d) : any(d), d);
            case 6: return "text \"" + procedureName();
            case 7: return "first list " + list(d) + " " + any(d);
            case 8: return of("run ", "ask 5 ", "catch \"error ") + giving(list(d), d);
            default: return "ifelse " + truth(d) + " " + giving(list(d), d) + " " + giving(list(d), d);
        }
    }
}
