import java.util.ArrayList;
import java.util.Collections;
import java.util.LinkedHashMap;
import java.util.List;
import java.util.Map;
import java.util.TreeMap;
import java.util.function.Supplier;

/**
 * The document a second time, by other means than the class: it works by recursion, leaves by exceptions, and finds every
 * place where a LINE stands by running it from its beginning. A NUMBER is an Integer, a WORD a String, a LIST a List.
 */
final class Model {
    private static final Map<String, String> KINDS = kinds();
    private static final String ALONE = "[]()+-*/=<>";
    private static final String SIGNS = "=<>+-*/";
    private static final String[] SIGN_WORDS = {"equalp", "lessp", "greaterp", "sum", "difference", "product", "quotient"};
    private static final int BIGGEST = 1000000000;

    private static final class Err extends RuntimeException {
        private static final long serialVersionUID = 1;
        final int number;

        Err(int number) {
            super(null, null, false, false);
            this.number = number;
        }
    }

    /** The LINE stands where it was told to stand. */
    private static final class Halt extends RuntimeException {
        private static final long serialVersionUID = 1;

        Halt() {
            super(null, null, false, false);
        }
    }

    /** A LEVEL is left, with what it gives; no LEVEL: the LINE ENDS. */
    private static final class Leave extends RuntimeException {
        private static final long serialVersionUID = 1;
        final transient Level level;
        final transient Object gift;

        Leave(Level level, Object gift) {
            super(null, null, false, false);
            this.level = level;
            this.gift = gift;
        }
    }

    private static final class Level {
        final String kind;
        int procedure;
        Map<String, Object> locals;
        int turn;
        Object member;
        String tag;
        int toldAhead = -1;

        Level(String kind) {
            this.kind = kind;
        }
    }

    private record Procedure(List<String> inputs, List<Object> body) {
    }

    private record Token(String text, int place) {
    }

    private record Turtle(Surd x, Surd y, int px, int qx, int py, int qy, int heading, int pen, int down) {
    }

    /** All that go() brings back. */
    private record World(Map<String, Procedure> procedures, Map<String, Object> globals, List<Turtle> turtles, int[][] dots,
            String out, int seed, int told) {
    }

    private static final class Cursor {
        final List<Object> list;
        int next;

        Cursor(List<Object> list) {
            this.list = list;
        }

        boolean atEnd() {
            return next == list.size();
        }

        Object ahead() {
            return atEnd() ? null : list.get(next);
        }
    }

    // A LOCAL NAME without VALUE has this one.
    private static final Object NO_VALUE = new Object();

    StringBuilder tape = new StringBuilder();
    private Map<String, Procedure> procedures = new LinkedHashMap<>();
    private Map<String, Object> globals = new LinkedHashMap<>();
    private List<Turtle> turtles = new ArrayList<>();
    private int[][] dots = new int[64][64];
    private String out = "";
    private int seed;
    private int told;
    private int faultKind;
    private int faultPlace;

    private List<Object> lineList;
    private World atLine;
    private boolean definedSince;
    private int state;
    private int error;
    private int done;
    private int target;
    private int made;
    private int caught;
    private int waiting;
    private List<Level> levels = new ArrayList<>();

    Model(int seed) {
        this.seed = seed == 0 ? 1 : seed;
        for (int i = 0; i < 8; i++) {
            turtles.add(turtle(0, 0, 0, 0, 0, 1, 1));
        }
    }

    private static Map<String, String> kinds() {
        Map<String, String> kinds = new TreeMap<>();
        put(kinds, "n", "fd bk rt lt seth setpen tell minus random");
        put(kinds, "nn", "place same sum difference product quotient remainder lessp greaterp");
        put(kinds, "", "pu pd home clean heading xcor ycor pen who dot repcount ? stop error");
        put(kinds, "bb", "and or");
        put(kinds, "b", "not");
        put(kinds, "vv", "equalp sentence list");
        put(kinds, "v", "listp wordp numberp count print show type output");
        put(kinds, "l", "emptyp first last butfirst butlast reverse run");
        put(kinds, "nl", "item repeat ask");
        put(kinds, "vl", "fput lput memberp");
        put(kinds, "ss", "word");
        put(kinds, "wv", "make");
        put(kinds, "w", "local thing namep arity text throw");
        put(kinds, "wl", "define catch");
        put(kinds, "bl", "if");
        put(kinds, "bll", "ifelse");
        put(kinds, "ll", "while foreach map");
        return kinds;
    }

    private static void put(Map<String, String> kinds, String kind, String words) {
        for (String word : words.split(" ")) {
            kinds.put(word, kind);
        }
    }

    // ---- reading

    private static boolean isDigits(String text) {
        return text.matches("-?[0-9]+");
    }

    private static boolean inBounds(String digits) {
        return new java.math.BigInteger(digits).abs().compareTo(java.math.BigInteger.valueOf(BIGGEST)) <= 0;
    }

    private void blame(int kind, int place) {
        if (faultKind == 0 || place < faultPlace || place == faultPlace && kind < faultKind) {
            faultKind = kind;
            faultPlace = place;
        }
    }

    private List<Token> tokens(String text) {
        List<Token> tokens = new ArrayList<>();
        int i = 0;
        while (i < text.length()) {
            char c = text.charAt(i);
            if (c == ';') {
                while (i < text.length() && text.charAt(i) != '\n') {
                    i++;
                }
            } else if (c <= ' ' || c > '~') {
                i++;
            } else {
                int end = i + 1;
                if (ALONE.indexOf(c) < 0 || c == '-' && isNumbersDash(text, i)) {
                    while (end < text.length() && isLetter(text.charAt(end))) {
                        end++;
                    }
                }
                tokens.add(new Token(text.substring(i, end), i));
                i = end;
            }
        }
        return tokens;
    }

    private static boolean isLetter(char c) {
        return c > ' ' && c <= '~' && c != ';' && ALONE.indexOf(c) < 0;
    }

    private static boolean isNumbersDash(String text, int at) {
        boolean digitBehind = at + 1 < text.length() && Character.isDigit(text.charAt(at + 1)) && text.charAt(at + 1) < 128;
        return digitBehind && (at == 0 || " \n[(=<>+-*/".indexOf(text.charAt(at - 1)) >= 0);
    }

    private void blameTokens(String text, List<Token> tokens) {
        for (int i = 0; i < text.length(); i++) {
            if (text.charAt(i) != '\n' && (text.charAt(i) < ' ' || text.charAt(i) > '~')) {
                blame(1, i);
            }
        }
        int depth = 0;
        for (int i = 0; i < tokens.size(); i++) {
            Token token = tokens.get(i);
            if (isDigits(token.text)) {
                if (!inBounds(token.text)) {
                    blame(2, token.place);
                }
            } else if (token.text.length() > 30) {
                blame(3, token.place);
            }
            depth += token.text.equals("[") ? 1 : token.text.equals("]") ? -1 : 0;
            if (depth < 0) {
                blame(4, token.place);
            }
            if (depth > 20 && token.text.equals("[")) {
                blame(5, token.place);
            }
            if (i >= 600) {
                blame(6, token.place);
            }
        }
        if (depth > 0) {
            blame(4, text.length());
        }
    }

    /** The members of a LIST from a token on, up to its ] or, without one, to the end; how many tokens that took is added. */
    private static List<Object> members(List<Token> tokens, int[] at) {
        List<Object> members = new ArrayList<>();
        while (at[0] < tokens.size()) {
            String text = tokens.get(at[0]).text;
            at[0]++;
            if (text.equals("]")) {
                break;
            }
            members.add(text.equals("[") ? members(tokens, at) : isDigits(text) ? (Object) Integer.valueOf(text) : text);
        }
        return Collections.unmodifiableList(members);
    }

    private static boolean isName(String text) {
        return !KINDS.containsKey(text) && !isDigits(text) && !text.matches("[\":].*|[-+*/=<>()\\[\\]]|to|end");
    }

    int define() {
        if (state == 1) {
            return -20;
        }
        String text = tape.toString();
        tape.setLength(0);
        faultKind = 0;
        List<Token> tokens = tokens(text);
        blameTokens(text, tokens);
        Map<String, Procedure> all = new LinkedHashMap<>(procedures);
        int came = readProcedures(tokens, text.length(), all);
        if (faultKind != 0) {
            return -faultKind;
        }
        procedures = all;
        definedSince |= came > 0;
        return came;
    }

    private int readProcedures(List<Token> tokens, int length, Map<String, Procedure> all) {
        int came = 0;
        int i = 0;
        while (i < tokens.size()) {
            if (!tokens.get(i).text.equals("to")) {
                blame(7, tokens.get(i).place);
                return came;
            }
            i++;
            if (i == tokens.size() || !isName(tokens.get(i).text)) {
                blame(8, i == tokens.size() ? length : tokens.get(i).place);
                return came;
            }
            String name = tokens.get(i).text;
            if (!all.containsKey(name) && all.size() == 40) {
                blame(11, tokens.get(i).place);
            }
            i++;
            List<String> inputs = new ArrayList<>();
            for (; i < tokens.size() && tokens.get(i).text.startsWith(":"); i++) {
                String input = tokens.get(i).text.substring(1);
                if (input.isEmpty() || inputs.contains(input) || inputs.size() == 5) {
                    blame(9, tokens.get(i).place);
                }
                inputs.add(input);
            }
            int from = i;
            int depth = 0;
            while (i < tokens.size() && (depth > 0 || !tokens.get(i).text.equals("end"))) {
                depth += tokens.get(i).text.equals("[") ? 1 : tokens.get(i).text.equals("]") ? -1 : 0;
                i++;
            }
            if (i == tokens.size()) {
                blame(10, length);
                return came;
            }
            if (faultKind == 0 || faultPlace >= tokens.get(i).place) {
                all.put(name, new Procedure(inputs, members(tokens.subList(from, i), new int[1])));
            }
            came++;
            i++;
        }
        return came;
    }

    int line() {
        if (state == 1) {
            return -20;
        }
        String text = tape.toString();
        tape.setLength(0);
        faultKind = 0;
        List<Token> tokens = tokens(text);
        blameTokens(text, tokens);
        if (faultKind != 0) {
            return -faultKind;
        }
        lineList = members(tokens, new int[1]);
        atLine = now();
        definedSince = false;
        replay(0);
        return lineList.size();
    }

    int fault(int what) {
        return faultKind == 0 ? -1 : what == 0 ? faultPlace : what == 1 ? faultKind : -1;
    }

    // ---- where the LINE stands

    private World now() {
        int[][] copy = new int[64][];
        for (int j = 0; j < 64; j++) {
            copy[j] = dots[j].clone();
        }
        return new World(new LinkedHashMap<>(procedures), new LinkedHashMap<>(globals), new ArrayList<>(turtles), copy, out, seed, told);
    }

    private void restore(World world) {
        procedures = new LinkedHashMap<>(world.procedures);
        globals = new LinkedHashMap<>(world.globals);
        turtles = new ArrayList<>(world.turtles);
        for (int j = 0; j < 64; j++) {
            dots[j] = world.dots[j].clone();
        }
        out = world.out;
        seed = world.seed;
        told = world.told;
    }

    private void replay(int instructions) {
        restore(atLine);
        state = 1;
        error = 0;
        done = 0;
        made = 0;
        caught = 0;
        waiting = 0;
        levels.clear();
        levels.add(new Level("line"));
        target = instructions;
        try {
            runList(lineList, false);
            ends(2, 0);
        } catch (Halt standing) {
            return;
        } catch (Leave all) {
            ends(2, 0);
        } catch (Err e) {
            ends(3, e.number);
        }
    }

    private void ends(int how, int number) {
        unwind(0);
        waiting = 0;
        state = how;
        error = number;
    }

    private void unwind(int height) {
        while (levels.size() > height) {
            Level level = levels.remove(levels.size() - 1);
            if (level.toldAhead >= 0) {
                told = level.toldAhead;
            }
        }
    }

    int run(int n) {
        if (state != 1 || n < 1) {
            return 0;
        }
        int before = done;
        replay((int) Math.min(20001L, (long) before + n));
        return done - before;
    }

    boolean go(int n) {
        if (atLine == null || n < 0 || n > done || definedSince) {
            return false;
        }
        replay(n);
        return true;
    }

    boolean stop() {
        if (state != 1) {
            return false;
        }
        ends(4, 0);
        return true;
    }

    /** The next INSTRUCTION would be APPLIED or begin here. */
    private void instruction() {
        if (done == 20000) {
            throw new Err(13);
        }
        if (done == target) {
            throw new Halt();
        }
        done++;
    }

    // ---- LISTS and E

    private Object runList(List<Object> list, boolean giving) {
        Cursor cursor = new Cursor(list);
        while (!cursor.atEnd()) {
            Object v = expression(cursor, 0);
            if (v != null) {
                if (giving && cursor.atEnd()) {
                    return v;
                }
                throw new Err(5);
            }
        }
        return null;
    }

    private static int strength(Object sign) {
        return sign.equals("*") || sign.equals("/") ? 3 : sign.equals("+") || sign.equals("-") ? 2 : 1;
    }

    private static boolean isSign(Object v) {
        return v instanceof String && ((String) v).length() == 1 && SIGNS.contains((String) v);
    }

    private Object expression(Cursor cursor, int s) {
        Object v = begin(cursor);
        while (isSign(cursor.ahead()) && strength(cursor.ahead()) > s) {
            if (v == null) {
                throw new Err(4);
            }
            String sign = (String) cursor.ahead();
            cursor.next++;
            await();
            Object right = value(cursor, strength(sign));
            waiting--;
            v = apply(SIGN_WORDS[SIGNS.indexOf(sign)], List.of(v, right));
        }
        return v;
    }

    private Object value(Cursor cursor, int s) {
        Object v = expression(cursor, s);
        if (v == null) {
            throw new Err(4);
        }
        return v;
    }

    private void await() {
        if (waiting == 400) {
            throw new Err(6);
        }
        waiting++;
    }

    private Object begin(Cursor cursor) {
        if (cursor.atEnd()) {
            throw new Err(4);
        }
        Object member = cursor.list.get(cursor.next);
        cursor.next++;
        if (!(member instanceof String)) {
            return member;
        }
        String word = (String) member;
        if (word.startsWith("\"")) {
            if (word.length() == 1) {
                throw new Err(3);
            }
            return plain(word.substring(1));
        }
        if (word.startsWith(":")) {
            return thing(word.substring(1));
        }
        if (word.equals("(")) {
            await();
            Object v = expression(cursor, 0);
            if (!")".equals(cursor.ahead())) {
                throw new Err(4);
            }
            cursor.next++;
            waiting--;
            return v;
        }
        if (word.equals("-")) {
            await();
            Object v = value(cursor, 4);
            waiting--;
            return apply("minus", List.of(v));
        }
        if (word.equals(")") || isSign(word)) {
            throw new Err(4);
        }
        if (KINDS.containsKey(word)) {
            return apply(word, inputs(cursor, KINDS.get(word).length()));
        }
        Procedure procedure = procedures.get(word);
        if (procedure == null) {
            throw new Err(1);
        }
        int number = new ArrayList<>(procedures.keySet()).indexOf(word);
        return call(procedure, number, inputs(cursor, procedure.inputs.size()));
    }

    private List<Object> inputs(Cursor cursor, int count) {
        List<Object> inputs = new ArrayList<>();
        if (count > 0) {
            await();
            for (int i = 0; i < count; i++) {
                inputs.add(value(cursor, 0));
            }
            waiting--;
        }
        return inputs;
    }

    /** What LETTERS are: a NUMBER or a WORD. */
    private static Object plain(String letters) {
        if (!isDigits(letters)) {
            return letters;
        }
        if (!inBounds(letters)) {
            throw new Err(9);
        }
        return Integer.valueOf(letters);
    }

    // ---- LEVELS

    private void wantLevel() {
        if (levels.size() == 150) {
            throw new Err(6);
        }
    }

    private Object on(Level level, Supplier<Object> work) {
        wantLevel();
        int height = levels.size();
        int waitingAhead = waiting;
        levels.add(level);
        try {
            Object gift = work.get();
            unwind(height);
            return gift;
        } catch (Halt standing) {
            throw standing;
        } catch (Err e) {
            unwind(height);
            waiting = waitingAhead;
            if (!"error".equals(level.tag) || e.number == 13) {
                throw e;
            }
            caught = e.number;
            return null;
        } catch (Leave leave) {
            unwind(height);
            waiting = waitingAhead;
            if (leave.level != level) {
                throw leave;
            }
            return leave.gift;
        }
    }

    private Object call(Procedure procedure, int number, List<Object> inputs) {
        instruction();
        Level level = new Level("call");
        level.procedure = number;
        level.locals = new LinkedHashMap<>();
        for (int i = 0; i < inputs.size(); i++) {
            level.locals.put(procedure.inputs.get(i), inputs.get(i));
        }
        return on(level, () -> runList(procedure.body, false));
    }

    private Level newestCall() {
        for (int i = levels.size() - 1; i >= 0; i--) {
            if (levels.get(i).locals != null) {
                return levels.get(i);
            }
        }
        return null;
    }

    /** In this CALL, or the LINE. */
    private Level newest(String kind) {
        for (int i = levels.size() - 1; i >= 0 && levels.get(i).locals == null; i--) {
            if (levels.get(i).kind.equals(kind)) {
                return levels.get(i);
            }
        }
        return null;
    }

    private Map<String, Object> holder(String name) {
        for (int i = levels.size() - 1; i >= 0; i--) {
            Map<String, Object> locals = levels.get(i).locals;
            if (locals != null && locals.containsKey(name)) {
                return locals;
            }
        }
        return globals;
    }

    private Object thing(String name) {
        Object v = holder(name).get(name);
        if (v == null || v == NO_VALUE) {
            throw new Err(2);
        }
        return v;
    }

    // ---- VALUES

    @SuppressWarnings("unchecked")
    private static List<Object> list(Object v) {
        return (List<Object>) v;
    }

    private static int size(Object v) {
        if (v instanceof List) {
            int size = 1;
            for (Object member : list(v)) {
                size += size(member);
            }
            return size;
        }
        return v instanceof String ? ((String) v).length() : 1;
    }

    static String shown(Object v) {
        return v instanceof List ? "[" + bare(v) + "]" : v.toString();
    }

    private static String bare(Object v) {
        if (!(v instanceof List)) {
            return v.toString();
        }
        List<String> parts = new ArrayList<>();
        for (Object member : list(v)) {
            parts.add(shown(member));
        }
        return String.join(" ", parts);
    }

    private void makes(int n) {
        if (made + n > 30000) {
            throw new Err(8);
        }
        made += n;
    }

    private Object newList(List<Object> members) {
        if (size(members) > 600) {
            throw new Err(8);
        }
        makes(members.size() + 1);
        return Collections.unmodifiableList(new ArrayList<>(members));
    }

    private static List<Object> membersOrItself(Object v) {
        return v instanceof List ? list(v) : List.of(v);
    }

    private Object joined(List<Object> a, List<Object> b) {
        List<Object> both = new ArrayList<>(a);
        both.addAll(b);
        return newList(both);
    }

    // ---- WORDS

    private static boolean fits(char kind, Object v) {
        switch (kind) {
            case 'n': return v instanceof Integer;
            case 'l': return v instanceof List;
            case 'w': return v instanceof String;
            case 's': return !(v instanceof List);
            case 'b': return v.equals("true") || v.equals("false");
            default: return true;
        }
    }

    private Object apply(String word, List<Object> in) {
        instruction();
        String kinds = KINDS.get(word);
        for (int i = 0; i < in.size(); i++) {
            want(fits(kinds.charAt(i), in.get(i)), 3);
        }
        Object a = in.size() > 0 ? in.get(0) : null;
        Object b = in.size() > 1 ? in.get(1) : null;
        int n = a instanceof Integer ? (Integer) a : 0;
        int m = b instanceof Integer ? (Integer) b : 0;
        Object gift = turtleWord(word, n, m);
        gift = gift == this ? numberWord(word, n, m, a, b) : gift;
        gift = gift == this ? listWord(word, a, b, n) : gift;
        gift = gift == this ? otherWord(word, a, b) : gift;
        return gift == this ? runningWord(word, in, a, b, n) : gift;
    }

    private static void want(boolean b, int otherwise) {
        if (!b) {
            throw new Err(otherwise);
        }
    }

    private static String truth(boolean b) {
        return b ? "true" : "false";
    }

    private static boolean within(int n, int from, int to) {
        return n >= from && n <= to;
    }

    private static Turtle turtle(int px, int qx, int py, int qy, int heading, int pen, int down) {
        return new Turtle(Surd.of(px, qx, 2), Surd.of(py, qy, 2), px, qx, py, qy, heading, pen, down);
    }

    private Object set(int px, int qx, int py, int qy, int heading, int pen, int down) {
        turtles.set(told, turtle(px, qx, py, qy, heading, pen, down));
        return null;
    }

    private Object turn(Turtle t, int from, int degrees) {
        want(degrees % 30 == 0, 3);
        return set(t.px, t.qx, t.py, t.qy, Math.floorMod(from + degrees / 30, 12), t.pen, t.down);
    }

    private Object turtleWord(String word, int n, int m) {
        Turtle t = turtles.get(told);
        switch (word) {
            case "fd": return step(t, n);
            case "bk": return step(t, -n);
            case "rt": return turn(t, t.heading, n);
            case "lt": return turn(t, t.heading, -n);
            case "seth": return turn(t, 0, n);
            case "pu": return set(t.px, t.qx, t.py, t.qy, t.heading, t.pen, 0);
            case "pd": return set(t.px, t.qx, t.py, t.qy, t.heading, t.pen, 1);
            case "setpen":
                want(within(n, 0, 7), 3);
                return set(t.px, t.qx, t.py, t.qy, t.heading, n, t.down);
            case "home": return set(0, 0, 0, 0, 0, t.pen, t.down);
            case "place":
                want(within(n, -30000, 30000) && within(m, -30000, 30000), 3);
                return set(2 * n, 0, 2 * m, 0, t.heading, t.pen, t.down);
            case "clean":
                dots = new int[64][64];
                return null;
            case "tell":
                want(within(n, 0, 7), 3);
                told = n;
                return null;
            case "heading": return 30 * t.heading;
            case "xcor": return (int) t.x.floor();
            case "ycor": return (int) t.y.floor();
            case "pen": return t.pen;
            case "who": return told;
            case "dot": return Math.max(0, dot(dotOf(t.x), dotOf(t.y)));
            case "same":
                want(within(n, 0, 7) && within(m, 0, 7), 3);
                return truth(turtles.get(n).x.minus(turtles.get(m).x).sign() == 0 && turtles.get(n).y.minus(turtles.get(m).y).sign() == 0);
            default: return this;
        }
    }

    private static long dotOf(Surd x) {
        return x.plus(Surd.of(1, 0, 2)).floor();
    }

    private int dot(long i, long j) {
        return i < -32 || i > 31 || j < -32 || j > 31 ? -1 : dots[(int) j + 32][(int) i + 32];
    }

    int dot(int i, int j) {
        return dot((long) i, (long) j);
    }

    /** Twice of the step by 1: px, qx, py, qy. */
    private static int[] direction(int heading) {
        switch (heading) {
            case 0: return new int[] {0, 0, 2, 0};
            case 1: return new int[] {1, 0, 0, 1};
            case 2: return new int[] {0, 1, 1, 0};
            case 3: return new int[] {2, 0, 0, 0};
            case 4: return new int[] {0, 1, -1, 0};
            case 5: return new int[] {1, 0, 0, -1};
            default:
                int[] opposite = direction(heading - 6);
                return new int[] {-opposite[0], -opposite[1], -opposite[2], -opposite[3]};
        }
    }

    private Object step(Turtle t, int n) {
        want(within(n, -1000, 1000), 3);
        int[] d = direction(t.heading);
        Turtle to = turtle(t.px + n * d[0], t.qx + n * d[1], t.py + n * d[2], t.qy + n * d[3], t.heading, t.pen, t.down);
        for (int part : new int[] {to.px, to.qx, to.py, to.qy}) {
            want(within(part, -1000000, 1000000), 7);
        }
        if (t.down == 1) {
            Surd dx = Surd.of(d[0], d[1], 2);
            Surd dy = Surd.of(d[2], d[3], 2);
            if (t.heading % 6 >= 2 && t.heading % 6 <= 4) {
                draw(t.x, t.y, to.x, to.y, dy.over(dx), false, t.pen);
            } else {
                draw(t.y, t.x, to.y, to.x, dx.over(dy), true, t.pen);
            }
        }
        turtles.set(told, to);
        return null;
    }

    /** As for columns; changed: columns are rows. */
    private void draw(Surd x1, Surd y1, Surd x2, Surd y2, Surd slope, boolean changed, int pen) {
        long one = dotOf(x1);
        long two = dotOf(x2);
        for (long i = Math.max(-32, Math.min(one, two)); i <= Math.min(31, Math.max(one, two)); i++) {
            int side1 = x1.compareTo(i);
            int side2 = x2.compareTo(i);
            Surd y;
            if (side1 * side2 <= 0) {
                y = y1.plus(Surd.of(i, 0, 1).minus(x1).times(slope));
            } else {
                boolean firstIsNearer = x1.minus(x2).sign() * side1 < 0;
                y = firstIsNearer ? y1 : y2;
            }
            long j = dotOf(y);
            if (dot(i, j) >= 0) {
                dots[(int) (changed ? i : j) + 32][(int) (changed ? j : i) + 32] = pen;
            }
        }
    }

    private static Object number(long n) {
        want(n >= -BIGGEST && n <= BIGGEST, 9);
        return (int) n;
    }

    private Object numberWord(String word, long n, long m, Object a, Object b) {
        switch (word) {
            case "sum": return number(n + m);
            case "difference": return number(n - m);
            case "product": return number(n * m);
            case "quotient":
                want(m != 0, 10);
                return number(n / m);
            case "remainder":
                want(m != 0, 10);
                return number(n % m);
            case "minus": return number(-n);
            case "lessp": return truth(n < m);
            case "greaterp": return truth(n > m);
            case "random":
                want(n >= 1, 3);
                long s = seed & 0xffffffffL;
                s ^= s << 13 & 0xffffffffL;
                s ^= s >> 17;
                s ^= s << 5 & 0xffffffffL;
                seed = (int) s;
                return (int) (s % 0x80000000L % n);
            case "and": return truth(a.equals("true") && b.equals("true"));
            case "or": return truth(a.equals("true") || b.equals("true"));
            case "not": return truth(a.equals("false"));
            default: return this;
        }
    }

    private Object listWord(String word, Object a, Object b, int n) {
        switch (word) {
            case "equalp": return truth(a.equals(b));
            case "listp": return truth(a instanceof List);
            case "wordp": return truth(a instanceof String);
            case "numberp": return truth(a instanceof Integer);
            case "count": return a instanceof List ? list(a).size() : 1;
            case "emptyp": return truth(list(a).isEmpty());
            case "first":
                want(!list(a).isEmpty(), 3);
                return list(a).get(0);
            case "last":
                want(!list(a).isEmpty(), 3);
                return list(a).get(list(a).size() - 1);
            case "butfirst":
                want(!list(a).isEmpty(), 3);
                return newList(list(a).subList(1, list(a).size()));
            case "butlast":
                want(!list(a).isEmpty(), 3);
                return newList(list(a).subList(0, list(a).size() - 1));
            case "item":
                want(within(n, 1, list(b).size()), 3);
                return list(b).get(n - 1);
            case "fput": return joined(List.of(a), list(b));
            case "lput": return joined(list(b), List.of(a));
            case "sentence": return joined(membersOrItself(a), membersOrItself(b));
            case "list": return joined(List.of(a), List.of(b));
            case "memberp": return truth(list(b).contains(a));
            case "reverse":
                List<Object> turned = new ArrayList<>(list(a));
                Collections.reverse(turned);
                return newList(turned);
            case "word":
                Object v = plain(shown(a) + shown(b));
                want(shown(v).length() <= 30, 8);
                makes(shown(v).length());
                return v;
            default: return this;
        }
    }

    private Object otherWord(String word, Object a, Object b) {
        switch (word) {
            case "make":
                Map<String, Object> holder = holder((String) a);
                want(holder != globals || size(b) <= 300 && (globals.containsKey(a) || globals.size() < 64), 8);
                holder.put((String) a, b);
                return null;
            case "local":
                want(newestCall() != null, 12);
                Map<String, Object> locals = newestCall().locals;
                want(locals.containsKey(a) || locals.size() < 12, 8);
                locals.putIfAbsent((String) a, NO_VALUE);
                return null;
            case "thing": return thing((String) a);
            case "namep":
                Object held = holder((String) a).get(a);
                return truth(held != null && held != NO_VALUE);
            case "define": return tell((String) a, list(b));
            case "arity": return procedures.containsKey(a) ? procedures.get(a).inputs.size() : -1;
            case "text":
                want(procedures.containsKey(a), 1);
                return procedures.get(a).body;
            case "print":
                out += bare(a) + "\n";
                return null;
            case "show":
                out += shown(a) + "\n";
                return null;
            case "type":
                out += bare(a);
                return null;
            default: return this;
        }
    }

    private Object tell(String name, List<Object> both) {
        want(isName(name) && both.size() == 2 && both.get(0) instanceof List && both.get(1) instanceof List, 3);
        List<String> inputs = new ArrayList<>();
        for (Object input : list(both.get(0))) {
            want(input instanceof String && !inputs.contains(input), 3);
            inputs.add((String) input);
        }
        want(inputs.size() <= 5 && size(both.get(1)) <= 600, 3);
        want(procedures.containsKey(name) || procedures.size() < 40, 8);
        procedures.put(name, new Procedure(inputs, list(both.get(1))));
        return null;
    }

    private Object runningWord(String word, List<Object> in, Object a, Object b, int n) {
        switch (word) {
            case "run": return on(new Level("run"), () -> runList(list(a), true));
            case "if": return a.equals("true") ? on(new Level("if"), () -> runList(list(b), false)) : null;
            case "ifelse": return on(new Level("ifelse"), () -> runList(list(a.equals("true") ? b : in.get(2)), true));
            case "repeat": return repeat(n, list(b));
            case "repcount": return newest("repeat") == null ? 0 : newest("repeat").turn;
            case "while": return on(new Level("while"), () -> turnWhile(list(a), list(b)));
            case "foreach": return forEach(list(a), list(b));
            case "?":
                want(newest("each") != null, 1);
                return newest("each").member;
            case "map": return map(list(a), list(b));
            case "ask": return ask(n, list(b));
            case "stop": throw new Leave(newestCall(), null);
            case "output":
                want(newestCall() != null, 12);
                throw new Leave(newestCall(), a);
            case "catch":
                Level level = new Level("catch");
                level.tag = (String) a;
                return on(level, () -> runList(list(b), true));
            case "throw": return goTo((String) a);
            case "error":
                int number = caught;
                caught = 0;
                return number;
            default: throw new IllegalStateException(word);
        }
    }

    private Object repeat(int n, List<Object> list) {
        if (n <= 0) {
            return null;
        }
        Level level = new Level("repeat");
        return on(level, () -> {
            for (int k = 1; k <= n; k++) {
                if (k > 1) {
                    instruction();
                }
                level.turn = k;
                runList(list, false);
            }
            return null;
        });
    }

    private Object turnWhile(List<Object> test, List<Object> list) {
        for (;;) {
            Object v = runList(test, true);
            want(v != null, 4);
            want(v.equals("true") || v.equals("false"), 3);
            if (v.equals("false")) {
                return null;
            }
            runList(list, false);
            instruction();
        }
    }

    private Object forEach(List<Object> members, List<Object> list) {
        if (members.isEmpty()) {
            return null;
        }
        Level level = new Level("each");
        return on(level, () -> {
            for (int i = 0; i < members.size(); i++) {
                if (i > 0) {
                    instruction();
                }
                level.member = members.get(i);
                runList(list, false);
            }
            return null;
        });
    }

    private Object map(List<Object> members, List<Object> list) {
        want(made < 30000, 8);
        if (!members.isEmpty()) {
            wantLevel();
        }
        makes(1);
        if (members.isEmpty()) {
            return List.of();
        }
        Level level = new Level("each");
        return on(level, () -> {
            List<Object> gifts = new ArrayList<>();
            for (int i = 0; i < members.size(); i++) {
                if (i > 0) {
                    instruction();
                }
                level.member = members.get(i);
                Object v = runList(list, true);
                want(v != null, 4);
                gifts.add(v);
                want(size(gifts) <= 600, 8);
                makes(1);
            }
            return Collections.unmodifiableList(gifts);
        });
    }

    private Object ask(int n, List<Object> list) {
        want(within(n, 0, 7), 3);
        Level level = new Level("ask");
        level.toldAhead = told;
        return on(level, () -> {
            told = n;
            return runList(list, true);
        });
    }

    private Object goTo(String tag) {
        for (int i = levels.size() - 1; i >= 0; i--) {
            if (tag.equals(levels.get(i).tag)) {
                throw new Leave(levels.get(i), null);
            }
        }
        throw new Err(11);
    }

    // ---- what there is

    int look(int what) {
        int[] all = {state, error, done, levels.size(), waiting, made, caught, told, globals.size(), procedures.size(),
            Math.min(2000, out.length()), tape.length(), seed, openCalls().size()};
        return what >= 0 && what < all.length ? all[what] : -1;
    }

    int place(int turtle, int axis, int part) {
        Turtle t = turtles.get(turtle);
        return new int[] {t.px, t.qx, t.py, t.qy}[2 * axis + part];
    }

    int side(int turtle, int axis, int v) {
        return (axis == 0 ? turtles.get(turtle).x : turtles.get(turtle).y).compareTo(v);
    }

    int turtle(int turtle, int what) {
        if (turtle < 0 || turtle > 7) {
            return -1;
        }
        Turtle t = turtles.get(turtle);
        return what == 0 ? 30 * t.heading : what == 1 ? t.pen : what == 2 ? t.down : -1;
    }

    String out() {
        return out.length() > 2000 ? out.substring(out.length() - 2000) : out;
    }

    String name(int k) {
        return new ArrayList<>(globals.keySet()).get(k);
    }

    String value(int k) {
        return shown(new ArrayList<>(globals.values()).get(k));
    }

    String procedure(int k) {
        String name = new ArrayList<>(procedures.keySet()).get(k);
        Procedure procedure = procedures.get(name);
        return procedure.inputs.size() + " " + procedure.body.size() + " " + name;
    }

    private List<Level> openCalls() {
        List<Level> calls = new ArrayList<>();
        for (Level level : levels) {
            if (level.locals != null) {
                calls.add(0, level);
            }
        }
        return calls;
    }

    int call(int k, int what) {
        if (k < 0 || k >= openCalls().size()) {
            return -1;
        }
        Level call = openCalls().get(k);
        int values = 0;
        for (Object v : call.locals.values()) {
            values += v == NO_VALUE ? 0 : 1;
        }
        return what == 0 ? call.procedure : what == 1 ? call.locals.size() : what == 2 ? values : -1;
    }

    int sum() {
        int sum = 0;
        for (int[] row : dots) {
            for (int dot : row) {
                sum = 31 * sum + dot;
            }
        }
        for (Turtle t : turtles) {
            for (int part : new int[] {t.px, t.qx, t.py, t.qy, t.heading, t.pen, t.down}) {
                sum = 31 * sum + part;
            }
        }
        return sum;
    }
}
