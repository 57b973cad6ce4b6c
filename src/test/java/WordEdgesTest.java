/** The edges of part III but the turtles, sentence by sentence, and of promises 15 to 17: what the WORDS do, and refuse. */
public final class WordEdgesTest {
    private static final String LETTERS_30 = "abcdefghijklmnopqrstuvwxyzABCD";
    // Of SIZE 571: 19 WORDS of 30 LETTERS.
    private static final String SIZE_571 = "[" + (LETTERS_30 + " ").repeat(19) + "]";

    public static void main(String[] args) {
        inputsOfAnotherKind();
        sums();
        divisions();
        comparisons();
        randoms();
        logic();
        equals();
        kinds();
        emptyLists();
        items();
        joins();
        words();
        sizesOfLists();
        sizesOfMaps();
        globals();
        sizesOfGlobals();
        locals();
        things();
        definesNames();
        definesInputsAndBodies();
        definesTheLast();
        arityAndText();
        runs();
        ifs();
        repeats();
        repcounts();
        whiles();
        foreaches();
        maps();
        stops();
        outputs();
        catches();
        errors();
        shown();
        outIsKept();
        nameAnswers();
        valueAnswers();
        valuesStay();
        manyValuesStay();
        Check.finish();
    }

    // n NUMBER, l LIST, w WORD, b true or false, t WORD or NUMBER, v any.
    private static final String[] KINDS = {"fd n", "bk n", "rt n", "lt n", "seth n", "setpen n", "place nn", "tell n", "same nn",
        "sum nn", "difference nn", "product nn", "quotient nn", "remainder nn", "minus n", "lessp nn", "greaterp nn", "random n",
        "and bb", "or bb", "not b", "emptyp l", "first l", "last l", "butfirst l", "butlast l", "item nl", "fput vl", "lput vl", "memberp vl",
        "reverse l", "word tt", "make wv", "local w", "thing w", "namep w", "define wl", "arity w", "text w", "run l", "if bl", "ifelse bll",
        "repeat nl", "while ll", "foreach ll", "map ll", "ask nl", "catch wl", "throw w"};

    private static String[] wrongFor(char kind) {
        switch (kind) {
            case 'n': return new String[] {"\"x", "[]", "[5]", "\"true"};
            case 'l': return new String[] {"\"x", "5"};
            case 'w': return new String[] {"5", "[]", "\"5", "[x]"};
            case 'b': return new String[] {"5", "[]", "\"x", "\"True", "\"FALSE", "1", "[true]", "\"tru", "\"truee"};
            case 't': return new String[] {"[]", "[a]"};
            default: return new String[0];
        }
    }

    private static String rightFor(char kind) {
        switch (kind) {
            case 'n': return "0";
            case 'l': return "[]";
            case 'w': return "\"x";
            case 'b': return "\"true";
            default: return "5";
        }
    }

    private static void inputsOfAnotherKind() {
        for (String line : KINDS) {
            String word = line.substring(0, line.indexOf(' '));
            String kinds = line.substring(line.indexOf(' ') + 1);
            for (int i = 0; i < kinds.length(); i++) {
                for (String wrong : wrongFor(kinds.charAt(i))) {
                    StringBuilder text = new StringBuilder(word);
                    for (int k = 0; k < kinds.length(); k++) {
                        text.append(' ').append(k == i ? wrong : rightFor(kinds.charAt(k)));
                    }
                    Check.refuses(text.toString(), 3, 1);
                }
            }
        }
        for (String sign : new String[] {"+", "-", "*", "/", "<", ">"}) {
            for (String wrong : wrongFor('n')) {
                Check.refuses("show 1 " + sign + " " + wrong, 3, 1);
                Check.refuses("show " + wrong + " " + sign + " 1", 3, 1);
            }
        }
        Check.refuses("show - []", 3, 1);
        Check.refuses("show - \"x", 3, 1);
    }

    private static void gives(String text, String due) {
        Check.prints("show " + text, due + "\n");
    }

    private static void sums() {
        gives("sum 999999999 1", "1000000000");
        gives("sum -999999999 -1", "-1000000000");
        gives("sum 1000000000 -1000000000", "0");
        gives("difference -999999999 1", "-1000000000");
        gives("difference 999999999 -1", "1000000000");
        gives("product 1000000000 -1", "-1000000000");
        gives("product -31622 31622", "-999950884");
        gives("minus 1000000000", "-1000000000");
        gives("minus -1000000000", "1000000000");
        gives("- -1000000000", "1000000000");
        gives("minus 0", "0");
        gives("product -5 0", "0");
        String[] beyond = {"sum 1000000000 1", "sum -1000000000 -1", "sum 1000000000 1000000000", "difference -1000000000 1",
            "difference 1000000000 -1", "difference -1000000000 1000000000", "product 31623 31623", "product -31623 31623",
            "product 1000000000 1000000000", "product 65536 65536", "1000000000 + 1", "-1000000000 - 1", "100000 * 10001"};
        for (String text : beyond) {
            Check.refuses("show " + text, 9, 1);
        }
    }

    private static void divisions() {
        int[] numbers = {7, -7, 2, -2, 1, -1, 0, 6, 1000000000, -1000000000};
        for (int n : numbers) {
            for (int m : numbers) {
                if (m == 0) {
                    Check.refuses("show quotient " + n + " 0", 10, 1);
                    Check.refuses("show remainder " + n + " 0", 10, 1);
                    Check.refuses("show " + n + " / 0", 10, 1);
                } else {
                    long size = Math.abs((long) n) / Math.abs((long) m);
                    long quotient = n < 0 != m < 0 ? -size : size;
                    gives("quotient " + n + " " + m, "" + quotient);
                    gives(n + " / " + m, "" + quotient);
                    gives("remainder " + n + " " + m, "" + (n - m * quotient));
                }
            }
        }
    }

    private static void comparisons() {
        gives("lessp 1 2", "true");
        gives("lessp 2 2", "false");
        gives("lessp 3 2", "false");
        gives("greaterp 1 2", "false");
        gives("greaterp 2 2", "false");
        gives("greaterp 3 2", "true");
        gives("lessp -1000000000 1000000000", "true");
        gives("greaterp -1000000000 1000000000", "false");
    }

    private static void randoms() {
        for (int seed : new int[] {1, -1, 2, 77, Integer.MIN_VALUE, Integer.MAX_VALUE, 0}) {
            TurtleWorld world = new TurtleWorld(seed);
            int s = seed == 0 ? 1 : seed;
            StringBuilder due = new StringBuilder();
            for (int n : new int[] {1, 2, 3, 1000000000, 999999937, 10}) {
                Check.line(world, "show random " + n);
                world.run(Check.ALL);
                s ^= s << 13;
                s ^= s >>> 17;
                s ^= s << 5;
                due.append((s & 0x7fffffff) % n).append('\n');
                Check.due("the SEED", world.look(12), s);
            }
            Check.due("random", Check.out(world), due.toString());
        }
        Check.refuses("show random 0", 3, 1);
        Check.refuses("show random -1", 3, 1);
        Check.refuses("show random -1000000000", 3, 1);
    }

    private static void logic() {
        String[] both = {"true", "false"};
        for (String a : both) {
            for (String b : both) {
                gives("and \"" + a + " \"" + b, "" + (a.equals("true") && b.equals("true")));
                gives("or \"" + a + " \"" + b, "" + (a.equals("true") || b.equals("true")));
            }
        }
        gives("not \"true", "false");
        gives("not \"false", "true");
        // A WORD that is made of letters is as good as another one.
        gives("not word \"tr \"ue", "false");
        gives("and first [true] 1 = 1", "true");
    }

    private static void equals() {
        String[][] same = {{"5", "5"}, {"\"5", "5"}, {"-5", "(- 5)"}, {"\"a", "\"a"}, {"[]", "[]"}, {"[a [b 1]]", "[a [b 1]]"}, {"word \"a \"b", "\"ab"},
            {"word 1 2", "12"}, {"[[] []]", "list [] []"}, {"first [+]", "first [+]"}, {"[ab]", "fput \"ab []"}};
        for (String[] pair : same) {
            gives("equalp " + pair[0] + " " + pair[1], "true");
            gives("memberp " + pair[0] + " fput 0 fput " + pair[1] + " []", "true");
        }
        String[][] others = {{"5", "-5"}, {"5", "[5]"}, {"\"a", "\"A"}, {"\"a", "\"ab"}, {"\"ab", "\"a"}, {"\"a", "[a]"}, {"[]", "[[]]"}, {"[a b]", "[b a]"},
            {"[a b]", "[ab]"}, {"[ab c]", "[a bc]"}, {"[a [b]]", "[[a] b]"}, {"[1 2]", "[1 2 3]"}, {"[a]", "[A]"}, {"[[a] [b]]", "[[a] [c]]"},
            {"[1]", "[a]"}, {"[[1] 2]", "[1 [2]]"}, {"0", "[]"}, {"\"a", "1"}};
        for (String[] pair : others) {
            gives("equalp " + pair[0] + " " + pair[1], "false");
            gives("equalp " + pair[1] + " " + pair[0], "false");
            gives("memberp " + pair[0] + " fput \"zz fput " + pair[1] + " []", "false");
        }
        // A LIST that has been made is EQUAL to one that has been read.
        String[][] made = {{"map [] []", "[]"}, {"map [a [b]] [?]", "[a [b]]"}, {"fput [a] [b]", "[[a] b]"}, {"lput [a] [b]", "[b [a]]"},
            {"sentence [a] \"bc", "[a bc]"}, {"sentence \"bc [a [d]]", "[bc a [d]]"}, {"list [a] 5", "[[a] 5]"}, {"butfirst [abc d]", "[d]"},
            {"butlast [[a b] d]", "[[a b]]"}, {"butfirst [a]", "[]"}, {"reverse [[a b] c 5]", "[5 c [a b]]"}, {"reverse []", "[]"}};
        for (String[] pair : made) {
            gives("equalp " + pair[0] + " " + pair[1], "true");
            gives("equalp " + pair[1] + " " + pair[0], "true");
            gives("equalp fput 1 " + pair[0] + " fput 1 " + pair[1], "true");
        }
        gives("memberp 1 []", "false");
        gives("memberp [] []", "false");
        gives("memberp [] [[]]", "true");
        gives("memberp 3 [1 2 3]", "true");
        gives("memberp 3 [1 2 [3]]", "false");
    }

    private static void kinds() {
        gives("map [5 a [] [a] -5 true] [listp ?]", "[false false true true false false]");
        gives("map [5 a [] [a] -5 true] [wordp ?]", "[false true false false false true]");
        gives("map [5 a [] [a] -5 true] [numberp ?]", "[true false false false true false]");
        gives("map [5 abc [] [a] [a [b c] d] -5] [count ?]", "[1 1 0 1 3 1]");
        gives("map [[] [a] [[]]] [emptyp ?]", "[true false false]");
    }

    private static void emptyLists() {
        for (String word : new String[] {"first", "last", "butfirst", "butlast"}) {
            Check.refuses("show " + word + " []", 3, 1);
        }
        gives("first [a]", "a");
        gives("last [a]", "a");
        gives("butfirst [a]", "[]");
        gives("butlast [a]", "[]");
        gives("first [a b c]", "a");
        gives("last [a b c]", "c");
        gives("first [[]]", "[]");
        gives("butfirst [a b c]", "[b c]");
        gives("butlast [a b c]", "[a b]");
        gives("reverse []", "[]");
        gives("reverse [a]", "[a]");
        gives("reverse [a [b c] d e]", "[e d [b c] a]");
    }

    private static void items() {
        gives("item 1 [a b c]", "a");
        gives("item 2 [a b c]", "b");
        gives("item 3 [a b c]", "c");
        for (String inputs : new String[] {"0 [a b c]", "4 [a b c]", "-1 [a b c]", "1 []", "0 []", "1000000000 [a]", "-1000000000 [a]"}) {
            Check.refuses("show item " + inputs, 3, 1);
        }
    }

    private static void joins() {
        gives("fput 5 []", "[5]");
        gives("fput [] []", "[[]]");
        gives("fput [a] [b c]", "[[a] b c]");
        gives("lput 5 []", "[5]");
        gives("lput [a] [b c]", "[b c [a]]");
        gives("sentence [] []", "[]");
        gives("sentence 5 []", "[5]");
        gives("sentence [] 5", "[5]");
        gives("sentence [a [b]] [[c] d]", "[a [b] [c] d]");
        gives("sentence \"a \"b", "[a b]");
        gives("list [] []", "[[] []]");
        gives("list 1 \"a", "[1 a]");
        // What one of these makes leaves its inputs as they are.
        Check.prints("make \"l [a b] make \"m fput 0 :l make \"m lput 0 :l make \"m butfirst :l make \"m reverse :l show :l", "[a b]\n");
    }

    private static void words() {
        gives("word \"a \"b", "ab");
        gives("word \"a 5", "a5");
        gives("word \"a -5", "a-5");
        gives("word -5 \"a", "-5a");
        gives("word 1 -5", "1-5");
        gives("wordp word 1 -5", "true");
        gives("numberp word 1 5", "true");
        gives("word -1 5", "-15");
        gives("numberp word -1 5", "true");
        gives("numberp word first [-] 5", "true");
        gives("wordp word first [-] first [-]", "true");
        gives("wordp word first [-] -5", "true");
        gives("word first [-] -5", "--5");
        gives("word first [-] 0", "0");
        gives("word 0 5", "5");
        gives("word 10000 00000", "100000");
        gives("word 100000000 0", "1000000000");
        gives("word -100000000 0", "-1000000000");
        for (String inputs : new String[] {"100000000 1", "-100000000 1", "1000000000 0", "-1000000000 0", "1000000000 1000000000"}) {
            Check.refuses("show word " + inputs, 9, 1);
        }
        String letters15 = LETTERS_30.substring(0, 15);
        gives("word \"" + letters15 + " \"" + letters15, letters15 + letters15);
        Check.refuses("show word \"" + letters15 + " \"" + letters15 + "x", 8, 1);
        gives("word \"" + LETTERS_30.substring(0, 20) + " 1000000000", LETTERS_30.substring(0, 20) + "1000000000");
        Check.refuses("show word \"" + LETTERS_30.substring(0, 20) + " -1000000000", 8, 1);
        Check.refuses("show word \"" + LETTERS_30.substring(0, 29) + " \"" + LETTERS_30.substring(0, 29), 8, 1);
    }

    private static String list(int words, int lettersOfTheLast) {
        return "[" + (LETTERS_30 + " ").repeat(words) + LETTERS_30.substring(0, lettersOfTheLast) + "]";
    }

    /** A LIST that a WORD makes has a SIZE of 600 at most; NUMBERS count 1, LISTS 1 and their members. */
    private static void sizesOfLists() {
        String word28 = "\"" + LETTERS_30.substring(0, 28);
        String word29 = "\"" + LETTERS_30.substring(0, 29);
        String size599 = list(19, 28);
        String size600 = list(19, 29);
        String size601 = list(20, 0);
        gives("count fput " + word29 + " " + SIZE_571, "20");
        gives("count lput " + word29 + " " + SIZE_571, "20");
        gives("count sentence " + word29 + " " + SIZE_571, "20");
        gives("count sentence " + SIZE_571 + " " + word29, "20");
        gives("count sentence " + SIZE_571 + " " + list(0, 29), "20");
        gives("count list " + SIZE_571 + " " + word28, "2");
        gives("count list " + word28 + " " + SIZE_571, "2");
        String word30 = "first [" + LETTERS_30 + "]";
        Check.refuses("show fput " + word30 + " " + SIZE_571, 8, 2);
        Check.refuses("show lput " + word30 + " " + SIZE_571, 8, 2);
        Check.refuses("show sentence " + word30 + " " + SIZE_571, 8, 2);
        Check.refuses("show sentence " + SIZE_571 + " " + word30, 8, 2);
        Check.refuses("show sentence " + SIZE_571 + " " + list(1, 0), 8, 1);
        Check.refuses("show list " + SIZE_571 + " " + word29, 8, 1);
        Check.refuses("show list " + word29 + " " + SIZE_571, 8, 1);
        for (String one : new String[] {"[]", "0", "1000000000", "-1000000000", "\"a"}) {
            gives("count fput " + one + " " + size599, "21");
            Check.refuses("show fput " + one + " " + size600, 8, 1);
            gives("count lput " + one + " " + size599, "21");
            Check.refuses("show lput " + one + " " + size600, 8, 1);
        }
        Check.refuses("show fput [a] " + size599, 8, 1);
        gives("count reverse " + size600, "20");
        Check.refuses("show reverse " + size601, 8, 1);
        gives("count butfirst " + size600.replace("[", "[" + LETTERS_30 + " "), "20");
        Check.refuses("show butfirst " + size601.replace("[", "[x "), 8, 1);
        gives("count butlast " + size600.replace("]", " " + LETTERS_30 + "]"), "20");
        Check.refuses("show butlast " + size601.replace("]", " x]"), 8, 1);
        // Those that make none have no such limit.
        String big = "[" + list(50, 0) + "]";
        gives("count first " + big, "50");
        gives("count item 1 " + big, "50");
        gives("count last " + big, "50");
        gives("count run " + big, "50");
    }

    private static void sizesOfMaps() {
        gives("count map " + list(19, 29) + " [?]", "20");
        Check.fails("show map " + list(20, 0) + " [?]", 8, 1 + 20 + 19);
        Check.fails("show map " + list(22, 0) + " [?]", 8, 1 + 20 + 19);
        Check.due("MADE by the VALUES ahead", Check.ran("", "show map " + list(20, 0) + " [?]").look(5), 1 + 19);
        gives("count map [" + "1 ".repeat(590) + "] [5]", "590");
        Check.fails("show map [1 2 3] [" + list(10, 0) + "]", 8, 2);
        gives("count map [1] [" + list(19, 28) + "]", "1");
        Check.fails("show map [1] [" + list(19, 29) + "]", 8, 1);
        Check.prints("catch \"error [show map " + list(20, 0) + " [?]] show error", "8\n");
    }

    private static String manyGlobals(int count) {
        StringBuilder text = new StringBuilder();
        for (int i = 0; i < count; i++) {
            text.append("make \"n").append(i).append(" ").append(i).append(" ");
        }
        return text.toString();
    }

    private static void globals() {
        TurtleWorld world = Check.ran("", manyGlobals(64));
        Check.due("64 GLOBAL NAMES", world.look(8), 64);
        for (int k = 0; k < 64; k++) {
            Check.due("NAME " + k, Check.name(world, k), "n" + k);
            Check.due("VALUE " + k, Check.value(world, k), "" + k);
        }
        Check.refuses(manyGlobals(64) + "make \"x 5", 8, 65);
        Check.refuses(manyGlobals(64) + "make \"N0 5", 8, 65);
        Check.prints(manyGlobals(64) + "make \"n0 7 make \"n63 8 show :n0 + :n63", "15\n");
        Check.prints("to f :x make \"x 5 local \"y make \"y 6 show :x + :y end", manyGlobals(64) + "f 0", "11\n");
        world = Check.ran("", "make \"b 1 make \"a 2 make \"b 3 make \"B 4");
        Check.due("in the order in which they came", Check.name(world, 0) + Check.name(world, 1) + Check.name(world, 2), "baB");
        Check.due("each with its newest VALUE", Check.value(world, 0) + Check.value(world, 1) + Check.value(world, 2), "324");
        Check.due("they stay for the next LINE", Check.line(world, "show :a"), 2);
        world.run(Check.ALL);
        Check.due("OUT", Check.out(world), "2\n");
        // A NAME may be any WORD.
        Check.prints("make \"fd 1 make \"\"q 2 make \":q 3 make first [+] 4 make \"end 5 show thing first [+] show thing \":q show :\"q", "4\n3\n2\n");
    }

    private static void sizesOfGlobals() {
        String size300 = list(9, 29);
        String size301 = list(10, 0);
        Check.prints("make \"a " + size300 + " show count :a", "10\n");
        Check.refuses("make \"a " + size301, 8, 1);
        Check.refuses("make \"a 5 make \"a " + size301, 8, 2);
        Check.prints("make \"a 5 make \"a " + size300 + " show count :a", "10\n");
        Check.prints("make \"a [" + "-1000000000 ".repeat(299) + "] show count :a", "299\n");
        Check.refuses("make \"a [" + "1 ".repeat(300) + "]", 8, 1);
        Check.refuses("make \"a [[" + "1 ".repeat(299) + "]]", 8, 1);
        Check.prints("make \"a [[" + "1 ".repeat(298) + "]] show count :a", "1\n");
        // Of a LOCAL one there is no such limit.
        Check.prints("to f :a make \"a " + list(50, 0) + " show count :a local \"b g show count :b end to g make \"b :a end", "f 5", "50\n50\n");
        Check.prints("to f :a show count :a end", "f " + list(50, 0), "50\n");
        Check.refuses("to f :a make \"b :a end", "f " + size301, 8, 2);
        Check.prints("show count [" + "1 ".repeat(590) + "]", "590\n");
    }

    private static String manyLocals(int count) {
        StringBuilder text = new StringBuilder();
        for (int i = 0; i < count; i++) {
            text.append("local \"l").append(i).append(' ');
        }
        return text.toString();
    }

    private static void locals() {
        Check.refuses("local \"a", 12, 1);
        Check.refuses("run [local \"a]", 12, 2);
        Check.refuses("to f end", "f local \"a", 12, 2);
        Check.prints("to f " + manyLocals(12) + "show 1 end", "f", "1\n");
        Check.refuses("to f " + manyLocals(13) + "end", "f", 8, 14);
        Check.prints("to f :a :b :c :d :e " + manyLocals(7) + "local \"a local \"l6 show 1 end", "f 1 2 3 4 5", "1\n");
        Check.refuses("to f :a :b :c :d :e " + manyLocals(8) + "end", "f 1 2 3 4 5", 8, 9);
        Check.prints("to f " + manyLocals(12) + "g end to g " + manyLocals(12) + "show 1 end", "f", "1\n");
        // One that is LOCAL there already keeps its VALUE; one of another CALL is another one.
        Check.prints("to f :a local \"a show :a g show :a end to g local \"a show namep \"a make \"a 6 show :a end", "f 5", "5\nfalse\n6\n5\n");
        Check.prints("to f run [local \"a make \"a 5] show :a end", "f show namep \"a", "5\nfalse\n");
        Check.fails("to f local \"a end", "f show :a", 2, 2);
    }

    private static void things() {
        Check.refuses("show thing \"a", 2, 1);
        Check.refuses("to f local \"a show thing \"a end", "make \"a 5 f", 2, 4);
        Check.prints("make \"a [5] show thing \"a show namep \"a show namep \"A show namep \"ab", "[5]\ntrue\nfalse\nfalse\n");
        Check.prints("to f :a show thing \"a show namep \"a local \"b show namep \"b make \"b [] show namep \"b end", "f 7", "7\ntrue\nfalse\ntrue\n");
    }

    private static void definesNames() {
        for (String word : TextEdgesTest.APPLIED) {
            Check.refuses("define \"" + word + " [[] []]", 3, 1);
        }
        for (String word : new String[] {"to", "end", "\"", "\"p", ":", ":p"}) {
            Check.refuses("define \"" + word + " [[] []]", 3, 1);
        }
        for (String word : new String[] {"(", ")", "+", "-", "*", "/", "=", "<", ">", "\"", ":", "fd", "\"p", ":p"}) {
            Check.refuses("define first [" + word + "] [[] []]", 3, 2);
        }
        for (String word : new String[] {"p", "true", "FD", "fd1", "5a", "-5a", "To", LETTERS_30}) {
            Check.prints("define first [" + word + "] [[] [show 5]] " + word, "5\n");
        }
        Check.prints("define word \"f \"e [[] [show 5]] fe define word \"a first [+] [[] [show 6]] run fput word \"a first [+] []", "5\n6\n");
    }

    private static void definesInputsAndBodies() {
        String[] wrong = {"[]", "[[]]", "[[] [] []]", "[5 []]", "[[] 5]", "[a []]", "[[] a]", "[[5] []]", "[[-5] []]", "[[[]] []]", "[[a [b]] []]",
            "[[a a] []]", "[[a b c a] []]", "[[a b c d e f] []]", "[[a b c d e a] []]", "[[] [] a]"};
        for (String list : wrong) {
            Check.refuses("define \"p " + list, 3, 1);
            Check.refuses("to p :x pu end", "define \"p " + list, 3, 1);
        }
        Check.prints("define \"p [[a b c d e] [show :a + :b + :c + :d + :e]] p 1 2 3 4 5 show arity \"p", "15\n5\n");
        Check.prints("define \"p [[a A ab] [show :a + :A + :ab]] p 1 2 3", "6\n");
        Check.prints("define \"p [[fd end + ?] [show :fd + :end show thing first [+] show thing \"?]] p 1 2 3 4", "3\n3\n4\n");
        // The BODY's SIZE is 600 at most; the INPUTS count not.
        Check.prints("define \"p [[" + LETTERS_30 + "] " + list(19, 29) + "] show count text \"p", "20\n");
        Check.refuses("define \"p [[] " + list(20, 0) + "]", 3, 1);
        Check.prints("define \"p [[] [" + "1 ".repeat(580) + "]] show count text \"p", "580\n");
        Check.prints("define \"p [[] []] p show text \"p", "[]\n");
    }

    private static void definesTheLast() {
        String forty = "repeat 40 [define word \"p repcount list [] fput \"pu []] ";
        TurtleWorld world = Check.ran("", forty);
        Check.due("forty", world.look(9), 40);
        Check.due("no ERROR", world.look(1), 0);
        int ahead = world.look(2);
        Check.refuses(forty + "define \"q [[] []]", 8, ahead + 1);
        Check.refuses(forty + "define \"P1 [[] []]", 8, ahead + 1);
        world = Check.ran("", forty + "define \"p40 [[a b] []] define \"p1 [[a] []]");
        Check.due("one told again", world.look(1), 0);
        Check.due("forty still", world.look(9), 40);
        Check.due("INPUTS of the last", world.procedure(39, 0), 2);
        Check.due("INPUTS of the first", world.procedure(0, 0), 1);
        Check.due("its BODY", world.procedure(0, 1), 0);
        // CALLS that are open, and what has been met, go on with the old one.
        Check.prints("to p :a define \"p [[] [show 2]] show :a end", "p 1 p", "1\n2\n");
        Check.prints("to p :a show :a end", "p ifelse \"true [define \"p [[] [show 2]] 1] [] p", "1\n2\n");
        Check.fails("to p :a show :a end", "define \"p [[] [5]] p", 5, 2);
        world = Check.world("to p define \"p [[x] []] pu end");
        Check.line(world, "p");
        world.run(2);
        Check.due("the number of the open CALL", world.call(0, 0), 0);
        Check.due("its LOCAL NAMES", world.call(0, 1), 0);
    }

    private static void arityAndText() {
        Check.prints("to p :a :b end to q end", "show arity \"p show arity \"q show arity \"P show arity \"fd show arity \"to", "2\n0\n-1\n-1\n-1\n");
        Check.prints("to p :a [x y] pu end to q end", "show text \"p show text \"q", "[[x y] pu]\n[]\n");
        Check.refuses("show text \"p", 1, 1);
        Check.refuses("show text \"fd", 1, 1);
        Check.refuses("to p end", "show text \"P", 1, 1);
    }

    private static void runs() {
        gives("run [5]", "5");
        gives("run [pu 5]", "5");
        gives("run [pu (5)]", "5");
        gives("run [5 + 1]", "6");
        gives("run [run [run [7]]]", "7");
        Check.prints("run [] run [pu] run [show 1]", "1\n");
        Check.fails("show run [5 pu]", 5, 1);
        Check.fails("show run [5 6]", 5, 1);
        Check.fails("show run [5 zz]", 5, 1);
        Check.fails("show run [zz 5]", 1, 1);
        Check.fails("show run [pu]", 4, 2);
        Check.fails("show run []", 4, 1);
        Check.fails("run [show] 5", 4, 1);
    }

    private static void ifs() {
        Check.prints("if \"true [show 1] if \"false [show 2] if 1 = 1 [] if 1 = 2 [zz]", "1\n");
        Check.prints("ifelse \"true [show 1] [zz] ifelse \"false [zz] [show 2] show ifelse 1 = 1 [3] [4] show ifelse 1 = 2 [3] [4]", "1\n2\n3\n4\n");
        Check.fails("if \"true [5]", 5, 1);
        Check.fails("show if \"false [5]", 4, 1);
        Check.fails("show ifelse \"true [pu] [5]", 4, 2);
        Check.fails("show ifelse \"true [5 6] [5]", 5, 1);
    }

    private static void repeats() {
        Check.prints("repeat 0 [zz] repeat -1 [zz] repeat -1000000000 [zz] repeat 1 [show 1] repeat 3 [show 2]", "1\n2\n2\n2\n");
        Check.fails("repeat 1 [5]", 5, 1);
        Check.fails("repeat 3 [pu 5]", 5, 2);
        Check.fails("show repeat 1 []", 4, 1);
        Check.fails("show repeat 0 []", 4, 1);
    }

    private static void repcounts() {
        gives("repcount", "0");
        Check.prints("repeat 3 [type repcount] type repcount", "1230");
        Check.prints("repeat 2 [repeat 3 [type repcount] type repcount]", "12311232");
        Check.prints("to f type repcount end to g repeat 2 [type repcount f] type repcount end", "repeat 2 [f g]", "010200" + "010200");
        Check.prints("repeat 2 [run [foreach [a b] [if \"true [type repcount]]]]", "1122");
        Check.prints("repeat 2 [while [type repcount \"false] [] catch \"t [type repcount throw \"t] type repcount]", "111222");
        Check.prints("show map [a b] [repcount] repeat 0 [] show repcount", "[0 0]\n0\n");
    }

    private static void whiles() {
        Check.prints("while [\"false] [zz] while [1 = 2] [zz]", "");
        Check.prints("make \"n 3 while [:n > 0] [type :n make \"n :n - 1]", "321");
        Check.prints("make \"n 2 while [type :n :n > 0] [make \"n :n - 1]", "210");
        Check.fails("while [] [zz]", 4, 1);
        Check.fails("while [pu] [zz]", 4, 2);
        Check.fails("while [5] [zz]", 3, 1);
        Check.fails("while [[true]] [zz]", 3, 1);
        Check.fails("while [\"x] [zz]", 3, 1);
        Check.fails("while [\"True] [zz]", 3, 1);
        Check.fails("while [\"true pu] [zz]", 5, 1);
        Check.fails("while [\"true] [5]", 5, 1);
        Check.fails("show while [\"false] []", 4, 1);
        // In its second turn, too.
        Check.fails("make \"a \"true while [:a] [make \"a 5]", 3, 1 + 1 + 1 + 1);
        Check.fails("make \"a [\"true] while [run :a] [make \"a []]", 4, 1 + 1 + 1 + 1 + 1 + 1);
    }

    private static void foreaches() {
        Check.prints("foreach [] [zz] foreach [a] [type ?] foreach [1 [b c] d] [type ?]", "a1b cd");
        Check.prints("foreach [a b] [foreach [1 2] [type ?] type ?]", "12a12b");
        Check.prints("foreach [a b] [type ? show map [1 2] [?] type ?]", "a[1 2]\nab[1 2]\nb");
        Check.prints("foreach [a b] [repeat 2 [run [type ?]]]", "aabb");
        Check.fails("?", 1, 1);
        Check.fails("foreach [a] [pu] show ?", 1, 3);
        Check.fails("repeat 1 [show ?]", 1, 2);
        Check.fails("to f show ? end", "foreach [a] [f]", 1, 3);
        Check.prints("to f foreach [1] [type ?] end", "foreach [a] [f type ?]", "1a");
        Check.fails("foreach [a] [5]", 5, 1);
        Check.fails("foreach [a] [?]", 5, 2);
        Check.fails("show foreach [] []", 4, 1);
    }

    private static void maps() {
        gives("map [] [zz]", "[]");
        gives("map [1] [?]", "[1]");
        gives("map [1 2 3] [? * ?]", "[1 4 9]");
        gives("map [a b] [list ? map [1 2] [?]]", "[[a [1 2]] [b [1 2]]]");
        gives("map [a [b]] [pu ?]", "[a [b]]");
        gives("map [a b] [[]]", "[[] []]");
        Check.fails("show map [1] []", 4, 1);
        Check.fails("show map [1] [pu]", 4, 2);
        Check.fails("show map [1 2] [if ? = 1 [zz] ?]", 1, 4);
        Check.fails("show map [1 2] [ifelse ? = 1 [5] []]", 4, 1 + 3 + 1 + 3);
        Check.fails("show map [1] [? ?]", 5, 2);
        Check.fails("map [1] [?]", 5, 2);
        Check.prints("to f output map [1 2] [if ? = 2 [output \"two] ?] end", "show f", "two\n");
        Check.prints("catch \"t [show map [1 2] [if ? = 2 [throw \"t] ?]] show map [3] [?]", "[3]\n");
    }

    private static void stops() {
        Check.prints("show 1 stop show 2", "1\n");
        Check.prints("repeat 3 [show repcount if repcount = 2 [stop]] show 9", "1\n2\n");
        Check.prints("to f show 1 stop show 2 end", "f show 3", "1\n3\n");
        Check.prints("to f repeat 3 [g if repcount = 2 [stop]] end to g type repcount stop type 9 end", "f type 5", "005");
        Check.prints("to f run [catch \"t [ask 3 [stop]]] show 2 end", "f show who", "0\n");
        TurtleWorld world = Check.ran("", "catch \"error [run [stop]] zz");
        Check.due("all run", world.look(0), 2);
        Check.due("no ERROR", world.look(1), 0);
        Check.due("its INSTRUCTIONS", world.look(2), 3);
        Check.fails("to f stop end", "show f", 4, 2);
    }

    private static void outputs() {
        Check.refuses("output 5", 12, 1);
        Check.refuses("run [output 5]", 12, 2);
        Check.refuses("to f end", "f output 5", 12, 2);
        Check.prints("to f :a output :a show 1 end", "show f [] show f \"a show f [x]", "[]\na\n[x]\n");
        Check.prints("to f g output 1 end to g run [output2] end to output2 end", "show f", "1\n");
        Check.prints("to f output g end to g repeat 2 [output 7] end", "show f", "7\n");
        Check.fails("to f g output 1 end to g output 2 end", "show f", 5, 3);
        Check.prints("to f catch \"output [output 5] show 1 end", "show f", "5\n");
    }

    private static void catches() {
        Check.prints("catch \"t [show 1] show catch \"t [2] catch \"t [throw \"t show 3] catch \"t [] show 4", "1\n2\n4\n");
        Check.refuses("throw \"t", 11, 1);
        Check.refuses("throw \"error", 11, 1);
        Check.refuses("catch \"t [] throw \"t", 11, 2);
        Check.refuses("catch \"t [throw \"T]", 11, 2);
        Check.refuses("catch \"t [throw \"tt]", 11, 2);
        Check.prints("catch \"a [catch \"b [throw \"a] show 1] show 2 catch \"a [catch \"a [throw \"a] show 3]", "2\n3\n");
        Check.prints("to f catch \"b [throw \"a] end", "catch \"a [f show 1] show 2", "2\n");
        // Of an ERROR it is the newest catch of the tag error.
        Check.prints("catch \"error [catch \"t [zz] show 1] show error", "1\n");
        Check.prints("catch \"error [catch \"error [zz] show 1] show error", "1\n1\n");
        Check.fails("catch \"Error [zz]", 1, 1);
        Check.fails("catch \"t [zz]", 1, 1);
        Check.prints("catch \"error [throw \"t] show error", "11\n");
        Check.prints("catch \"error [throw \"error show 1] show error", "0\n");
        Check.prints("catch \"error [show 5 +] show catch \"error [5] show error", "5\n4\n");
        Check.fails("show catch \"t [throw \"t]", 4, 2);
        Check.fails("catch \"error [5]", 5, 1);
        Check.prints("catch \"error [5 6] show error", "5\n");
    }

    /** Each ERROR but 13 can be caught, and is told once. */
    private static void errors() {
        String[] texts = {"zz", "show :zz", "fd \"a", "show", "5 5", "p", "repeat 501 [fd 1000]", "show word \"abcdefghijklmnop \"abcdefghijklmnop",
            "show 1000000000 + 1", "show 1 / 0", "throw \"zz", "output 5"};
        for (int i = 0; i < texts.length; i++) {
            String text = "catch \"error [" + texts[i] + "] show error show error";
            Check.prints("to p p end", text, i + 1 + "\n0\n");
            TurtleWorld world = Check.ran("to p p end", "catch \"error [" + texts[i] + "]");
            Check.due("look(6) behind " + texts[i], world.look(6), i + 1);
            Check.due("look(1) behind " + texts[i], world.look(1), 0);
        }
        gives("error", "0");
        Check.prints("catch \"error [zz] catch \"error [show 1 / 0] show error show error", "10\n0\n");
        Check.prints("catch \"error [zz] catch \"error [pu] show error", "1\n");
        TurtleWorld world = Check.ran("", "catch \"error [zz] show error zz");
        Check.due("look(6) behind error", world.look(6), 0);
        Check.due("the ERROR that no catch had", world.look(1), 1);
        Check.line(world, "catch \"error [zz]");
        world.run(Check.ALL);
        Check.line(world, "show error");
        world.run(Check.ALL);
        Check.due("in this LINE alone", Check.out(world), "1\n0\n");
    }

    private static void shown() {
        Check.prints("print 5 print -5 print \"a print [a b] print [] print [[]] print [[a] [b [c]]]", "5\n-5\na\na b\n\n[]\n[a] [b [c]]\n");
        Check.prints("show 5 show -5 show \"a show [a b] show [] show [[]] show [[a] [b [c]]]", "5\n-5\na\n[a b]\n[]\n[[]]\n[[a] [b [c]]]\n");
        Check.prints("type 5 type -5 type \"a type [a b] type [] type [[]] type [[a] []]", "5-5aa b[][a] []");
        Check.prints("show 0 show - 0 show 9 show 10 show 99 show 100 show 1000000000 show -1000000000 show 999999999 show 123456789",
                "0\n0\n9\n10\n99\n100\n1000000000\n-1000000000\n999999999\n123456789\n");
    }

    /** At most the latest 2000 signs are kept, out(0) being the latest one. */
    private static void outIsKept() {
        keeps("", "");
        keeps("type \"a", "a");
        keeps("repeat 199 [type \"abcdefghij] type \"ABCDEFGHI", "abcdefghij".repeat(199) + "ABCDEFGHI");
        keeps("repeat 200 [type \"abcdefghij]", "abcdefghij".repeat(200));
        keeps("repeat 200 [type \"abcdefghij] type \"Z", "abcdefghij".repeat(200) + "Z");
        keeps("type \"Z repeat 200 [type \"abcdefghij]", "Z" + "abcdefghij".repeat(200));
        keeps("repeat 451 [type \"abcdefghij] type \"Z", "abcdefghij".repeat(451) + "Z");
        // One text that is longer than all that is kept.
        String words = (LETTERS_30 + " ").repeat(100).trim();
        keeps("print [" + words + "]", words + "\n");
        keeps("type 1 show [" + words + "]", "1[" + words + "]\n");
        String numbers = "-1000000000 ".repeat(300).trim();
        keeps("show [" + numbers + "]", "[" + numbers + "]\n");
        keeps("make \"l [" + "1000000000 ".repeat(299) + "] show sentence :l :l", "[" + "1000000000 ".repeat(598).trim() + "]\n");
        TurtleWorld world = Check.ran("", "type \"abc print []");
        int[] due = {10, 'c', 'b', 'a', -1};
        for (int k = 0; k < due.length; k++) {
            Check.due("out(" + k + ")", world.out(k), due[k]);
        }
    }

    private static void keeps(String text, String whole) {
        TurtleWorld world = Check.ran("", text);
        Check.due("no ERROR in '" + text + "'", world.look(1), 0);
        String due = whole.length() > 2000 ? whole.substring(whole.length() - 2000) : whole;
        Check.due("signs that are kept of '" + text + "'", world.look(10), due.length());
        Check.due("OUT of '" + text + "'", Check.out(world), due);
        for (int k : new int[] {-1, due.length(), due.length() + 1, Integer.MIN_VALUE, Integer.MAX_VALUE}) {
            Check.due("out(" + k + ") of '" + text + "'", world.out(k), -1);
        }
    }

    private static void nameAnswers() {
        TurtleWorld world = Check.ran("", "make \"abc 5 make first [" + LETTERS_30 + "] []");
        int[] due = {'a', 'b', 'c', -1, -1};
        for (int i = 0; i < due.length; i++) {
            Check.due("name(0, " + i + ")", world.name(0, i), due[i]);
        }
        Check.due("a NAME of 30 LETTERS", Check.name(world, 1), LETTERS_30);
        int[][] none = {{0, -1}, {0, Integer.MIN_VALUE}, {0, Integer.MAX_VALUE}, {1, 30}, {2, 0}, {-1, 0}, {64, 0}, {Integer.MIN_VALUE, 0}, {Integer.MAX_VALUE, 0}};
        for (int[] k : none) {
            Check.due("name(" + k[0] + ", " + k[1] + ")", world.name(k[0], k[1]), -1);
            Check.due("value(" + k[0] + ", " + k[1] + ")", world.value(k[0], k[1]), -1);
        }
        // A LOCAL one is none of them.
        world = Check.world("to f :x pu end");
        Check.line(world, "f 5");
        world.run(1);
        Check.due("name(0, 0) in a CALL", world.name(0, 0), -1);
        Check.due("value(0, 0) in a CALL", world.value(0, 0), -1);
    }

    private static void valueAnswers() {
        String[][] due = {{"5", "5"}, {"-1000000000", "-1000000000"}, {"0", "0"}, {"\"abc", "abc"}, {"[]", "[]"}, {"[a]", "[a]"}, {"[[a] [] -5 b]", "[[a] [] -5 b]"}};
        for (String[] pair : due) {
            TurtleWorld world = Check.ran("", "make \"x " + pair[0]);
            Check.due("value of " + pair[0], Check.value(world, 0), pair[1]);
            Check.due("behind it", world.value(0, pair[1].length()), -1);
            Check.due("ahead of it", world.value(0, -1), -1);
        }
        String numbers = "-1000000000 ".repeat(299).trim();
        Check.due("a long one", Check.value(Check.ran("", "make \"x [" + numbers + "]"), 0), "[" + numbers + "]");
        Check.due("and OUT stays", Check.out(Check.ran("", "make \"x 5 type \"a")), "a");
    }

    /** VALUES that have parts in common are as they were in the LINES that follow. */
    private static void valuesStay() {
        TurtleWorld world = Check.world("to f :x show :x end");
        Check.line(world, "make \"l [abc [de fg] \"hi :jk 5] make \"w first :l make \"m item 2 :l make \"v last :m make \"q item 3 :l "
                + "make \"t run fput item 3 :l [] make \"n list :l :m define \"g list [a] :l define \"h list :m :m make :w :w");
        world.run(Check.ALL);
        Check.due("no ERROR", world.look(1), 0);
        String[] due = {"[abc [de fg] \"hi :jk 5]", "abc", "[de fg]", "fg", "\"hi", "hi", "[[abc [de fg] \"hi :jk 5] [de fg]]", "abc"};
        for (int line = 0; line < 6; line++) {
            for (int k = 0; k < due.length; k++) {
                Check.due("VALUE " + k + " behind " + line + " lines", Check.value(world, k), due[k]);
            }
            Check.due("the NAME abc", Check.name(world, 7), "abc");
            Check.line(world, "f equalp :w first :l f equalp :m item 2 :l f equalp :v last item 2 :l f equalp :l text \"g f equalp :m text \"h "
                    + "f equalp :n list :l :m f arity \"h f run fput :q []");
            world.run(Check.ALL);
            Check.due("no ERROR", world.look(1), 0);
        }
        Check.due("OUT", Check.out(world), ("true\n".repeat(6) + "2\nhi\n").repeat(6));
    }

    /** As much as a first LINE can leave: what is read behind it must not push it out. */
    private static void manyValuesStay() {
        StringBuilder numbers = new StringBuilder();
        for (int i = 10; i < 69; i++) {
            numbers.append(i).append(' ');
        }
        TurtleWorld world = Check.world("");
        Check.line(world, "make \"l [" + numbers + "] repeat 60 [make word \"n repcount map :l [word \"abc ?]]");
        world.run(Check.ALL);
        Check.due("no ERROR", world.look(1), 0);
        Check.due("GLOBAL NAMES", world.look(8), 61);
        String due = "[abc" + numbers.toString().trim().replace(" ", " abc") + "]";
        for (int line = 0; line < 4; line++) {
            for (int k = 1; k < 61; k++) {
                Check.due("VALUE " + k + " behind " + line + " lines", Check.value(world, k), due);
                Check.due("NAME " + k + " behind " + line + " lines", Check.name(world, k), "n" + k);
            }
            Check.line(world, "repeat 40 [make \"l map :l [word \"x ?] make \"l map :l [? = ?]] pu");
            world.run(Check.ALL);
            Check.due("an ERROR of too much or too long", world.look(1) == 8 || world.look(1) == 13 || world.look(1) == 0, true);
        }
    }
}
