/** Part III but the turtles, the limits, and promises 16 and 17: what the WORDS do, and their ERRORS. */
public final class WordsTest {
    public static void main(String[] args) {
        numbers();
        randomNumbers();
        values();
        lists();
        words();
        names();
        procedures();
        running();
        catches();
        shown();
        levels();
        waiting();
        made();
        sizes();
        Check.finish();
    }

    private static void numbers() {
        Check.prints("print sum 2 3 print difference 2 3 print product -4 5", "5\n-1\n-20\n");
        Check.prints("print quotient -7 2 print remainder -7 2 print remainder 7 -2 print -7 / -2", "-3\n-1\n1\n3\n");
        Check.prints("print minus 5 print - 0 print lessp 1 2 print greaterp 1 2", "-5\n0\ntrue\nfalse\n");
        Check.prints("print and \"true \"false print or \"true \"false print not \"false", "false\ntrue\ntrue\n");
        Check.prints("print 999999999 + 1 print -999999999 - 1", "1000000000\n-1000000000\n");
        Check.fails("print 1000000000 + 1", 9, 1);
        Check.fails("print -1000000000 - 1", 9, 1);
        Check.fails("print 100000 * 100000", 9, 1);
        Check.fails("print quotient 1 0", 10, 1);
        Check.fails("print remainder 1 0", 10, 1);
        Check.fails("print quotient \"a 0", 3, 1);
        Check.fails("print 1 + \"a", 3, 1);
        Check.fails("print - [1]", 3, 1);
        Check.fails("print not 1", 3, 1);
        Check.fails("print and \"true \"True", 3, 1);
    }

    private static void randomNumbers() {
        TurtleWorld world = Check.ran("", "print random 1000 print random 1000000000");
        int seed = 1;
        StringBuilder due = new StringBuilder();
        for (int n : new int[] {1000, 1000000000}) {
            seed ^= seed << 13;
            seed ^= seed >>> 17;
            seed ^= seed << 5;
            due.append((seed & 0x7fffffff) % n).append('\n');
        }
        Check.due("random", Check.out(world), due.toString());
        Check.due("the SEED", world.look(12), seed);
        Check.fails("print random 0", 3, 1);
        Check.fails("print random -5", 3, 1);
        Check.due("the SEED behind an ERROR", Check.ran("", "print random 0").look(12), 1);
    }

    private static void values() {
        Check.prints("print equalp [1 [a]] [1 [a]] print equalp [1 [a]] [1 [A]] print \"a = \"A", "true\nfalse\nfalse\n");
        Check.prints("print equalp 5 \"5 print equalp [5] 5 print equalp [] [] print equalp [a] [[a]]", "true\nfalse\ntrue\nfalse\n");
        Check.prints("print listp [] print wordp \"a print wordp 5 print numberp 5 print numberp \"a", "true\ntrue\nfalse\ntrue\nfalse\n");
        Check.prints("print count [a [b c] d] print count \"abc print count 77 print count []", "3\n1\n1\n0\n");
        Check.prints("print emptyp [] print emptyp [a]", "true\nfalse\n");
        Check.fails("print emptyp \"a", 3, 1);
        Check.prints("print memberp [b] [a [b]] print memberp \"b [a [b]] print memberp 1 []", "true\nfalse\nfalse\n");
        Check.fails("print memberp 1 2", 3, 1);
    }

    private static void lists() {
        Check.prints("print first [[a] b] print last [[a] b] show butfirst [a b] show butlast [a b]", "a\nb\n[b]\n[a]\n");
        Check.prints("show butfirst [a] print item 2 [a b c]", "[]\nb\n");
        Check.prints("show fput [a] [b] show lput 5 [] show reverse [1 [2 3] 4]", "[[a] b]\n[5]\n[4 [2 3] 1]\n");
        Check.prints("show sentence [a b] \"c show sentence 1 2 show sentence [] [[]] show list [a] 5", "[a b c]\n[1 2]\n[[]]\n[[a] 5]\n");
        for (String word : new String[] {"first", "last", "butfirst", "butlast"}) {
            Check.fails("print " + word + " []", 3, 1);
            Check.fails("print " + word + " \"abc", 3, 1);
        }
        Check.fails("print item 0 [a]", 3, 1);
        Check.fails("print item 2 [a]", 3, 1);
        Check.fails("print item \"a [a]", 3, 1);
        Check.fails("print fput 1 2", 3, 1);
        Check.fails("print lput [1] \"a", 3, 1);
        Check.fails("print reverse 5", 3, 1);
    }

    private static void words() {
        Check.prints("print word \"ab \"c print word \"a -5 print 1 + word 1 2 print 1 + word first [-] 5", "abc\na-5\n13\n-4\n");
        Check.prints("print word 0 0 print wordp word \"a 1 print numberp word 1 1", "0\ntrue\ntrue\n");
        Check.fails("print word [a] \"b", 3, 1);
        Check.fails("print word \"a [b]", 3, 1);
        Check.fails("print word 1000000000 1", 9, 1);
        Check.prints("print word \"abcdefghijklmnopqrstuvwxyzabc \"d", "abcdefghijklmnopqrstuvwxyzabcd\n");
        Check.fails("print word \"abcdefghijklmnopqrstuvwxyzabc \"de", 8, 1);
        // A WORD that is made can be run: a ", a :, a -5 behind a ".
        Check.prints("make \"x 7 print run fput word first [:] \"x []", "7\n");
        Check.prints("print 1 + run fput word first [\"] -5 []", "-4\n");
        Check.prints("show run fput word first [\"] \"\"y []", "\"y\n");
    }

    private static void names() {
        TurtleWorld world = Check.ran("", "make \"ab [1 [x]] make \"c 5 make \"ab -12 make \"d []");
        Check.due("GLOBAL NAMES", world.look(8), 3);
        Check.due("name(0, 0)", world.name(0, 0), 'a');
        Check.due("name(0, 1)", world.name(0, 1), 'b');
        Check.due("name(0, 2)", world.name(0, 2), -1);
        Check.due("name(0, -1)", world.name(0, -1), -1);
        Check.due("name(1, 0)", world.name(1, 0), 'c');
        Check.due("name(3, 0)", world.name(3, 0), -1);
        Check.due("name(-1, 0)", world.name(-1, 0), -1);
        Check.due("value(0)", Check.value(world, 0), "-12");
        Check.due("value(2)", Check.value(world, 2), "[]");
        Check.due("value(0, -1)", world.value(0, -1), -1);
        Check.due("value(3, 0)", world.value(3, 0), -1);
        Check.due("value of a LIST", Check.value(Check.ran("", "make \"l [1 [x []] y]"), 0), "[1 [x []] y]");
        Check.prints("make \"a 5 print thing \"a print namep \"a print namep \"b", "5\ntrue\nfalse\n");
        Check.fails("print thing \"b", 2, 1);
        Check.fails("make 5 1", 3, 1);
        Check.fails("make [a] 1", 3, 1);
        Check.fails("local \"a", 12, 1);
        Check.fails("local 5", 3, 1);
        String local = "to p :a local \"b print namep \"b make \"b :a q print :b end to q make \"b 7 make \"z :a end";
        Check.prints(local, "make \"b 1 p 3 print :b print :z", "false\n7\n1\n3\n");
        Check.fails("to p local \"b print :b end", "make \"b 1 p", 2, 3);
        Check.fails("to p local \"b print thing \"b end", "make \"b 1 p", 2, 4);
        Check.prints("to p :a local \"a print :a end", "p 5", "5\n");
        String many = "to p :a :b :c local \"d local \"e local \"f local \"g local \"h local \"i local \"j local \"k local \"l ";
        Check.prints(many + "local \"l print 1 end", "p 1 2 3", "1\n");
        Check.fails(many + "local \"m end", "p 1 2 3", 8, 11);
        StringBuilder globals = new StringBuilder();
        for (int i = 0; i < 64; i++) {
            globals.append("make \"n").append(i).append(" ").append(i).append(" ");
        }
        Check.prints(globals + "make \"n9 [] print :n63", "63\n");
        Check.fails(globals + "make \"x 1", 8, 65);
        String big = "make \"l [1] repeat 8 [make \"l sentence :l :l] make \"l sentence :l [" + times("1 ", 43) + "] ";
        Check.prints(big + "print count :l", "299\n");
        Check.fails(big + "make \"l fput 1 :l", 8, 1 + 1 + 16 + 7 + 2 + 2);
        Check.prints("to p :l local \"m make \"m fput 1 :l print count :m end", big + "p :l", "300\n");
    }

    private static void procedures() {
        Check.prints("define \"p [[a b] [print :a + :b]] p 1 2 print arity \"p print arity \"q show text \"p", "3\n2\n-1\n[print :a + :b]\n");
        Check.fails("print text \"q", 1, 1);
        Check.fails("print arity 5", 3, 1);
        Check.fails("print text [a]", 3, 1);
        String[] wrong = {"\"fd [[] []]", "\"to [[] []]", "first [+] [[] []]", "first [(] [[] []]", "\"? [[] []]", "\"\"a [[] []]",
            "\":a [[] []]", "5 [[] []]", "\"p 5", "\"p [[]]", "\"p [[] [] []]", "\"p [[] a]", "\"p [a []]", "\"p [[5] []]", "\"p [[[a]] []]",
            "\"p [[a b a] []]", "\"p [[a b c d e f] []]"};
        for (String inputs : wrong) {
            TurtleWorld world = Check.ran("", "define " + inputs);
            Check.due("the ERROR of define " + inputs, world.look(1), 3);
            Check.due("procedures behind it", world.look(9), 0);
        }
        TurtleWorld world = Check.ran("", "repeat 41 [define word \"p repcount [[] []]]");
        Check.due("the 41st", world.look(1), 8);
        Check.due("forty", world.look(9), 40);
        Check.prints("define \"p [[a :b] [print ::b]] p 1 2", "2\n");
    }

    private static void running() {
        Check.prints("print run [5] run [print 1] run [] print run [pu 6]", "5\n1\n6\n");
        Check.fails("print run [pu]", 4, 2);
        Check.fails("print run []", 4, 1);
        Check.prints("if \"true [print 1] if \"false [print 2] print ifelse 1 = 2 [3] [4] ifelse \"true [print 5] [zz]", "1\n4\n5\n");
        Check.fails("if 1 [pu]", 3, 1);
        Check.fails("if \"true 5", 3, 1);
        Check.fails("ifelse \"true [pu] 5", 3, 1);
        Check.prints("repeat 2 [type repcount repeat 2 [type repcount]] repeat 0 [zz] repeat -1 [zz] type repcount", "1122120");
        Check.prints("to p type repcount repeat 1 [type repcount] end", "repeat 2 [p]", "0101");
        Check.prints("make \"n 3 while [:n > 0] [type :n make \"n :n - 1] while [\"false] [zz]", "321");
        Check.fails("while [pu] []", 4, 2);
        Check.fails("while [] []", 4, 1);
        Check.fails("while [5] []", 3, 1);
        Check.fails("while [\"x] []", 3, 1);
        Check.fails("while [\"true \"true] []", 5, 1);
        Check.prints("foreach [a [b] 3] [type ?] foreach [] [zz] foreach [1 2] [type ? foreach [x] [type ?] type ?]", "ab31x12x2");
        Check.fails("to p type ? end", "foreach [1] [p]", 1, 3);
        Check.prints("show map [1 2 3] [? * 2] show map [] [zz] show map [1 2] [pu ?]", "[2 4 6]\n[]\n[1 2]\n");
        Check.fails("print map [1] [pu]", 4, 2);
        Check.fails("print map [1 2] [? ?]", 5, 2);
        Check.prints("to p foreach [1 2 3] [if ? = 2 [output \"two]] end", "print p", "two\n");
        Check.prints("to p show map [1 2] [if ? = 2 [stop] ?] end", "p print 1", "1\n");
        Check.fails("output 1", 12, 1);
        Check.prints("ask 3 [print who tell 4 print who] print who print ask 2 [who]", "3\n4\n0\n2\n");
        Check.fails("ask 8 [pu]", 3, 1);
        Check.fails("ask -1 [pu]", 3, 1);
        Check.prints("to p ask 3 [output who] end", "print p print who", "3\n0\n");
    }

    private static void catches() {
        Check.prints("catch \"t [print 1 throw \"t print 2] print 3 print catch \"t [4]", "1\n3\n4\n");
        Check.fails("print catch \"t [throw \"t]", 4, 2);
        Check.fails("throw \"t", 11, 1);
        Check.fails("catch \"T [throw \"t]", 11, 2);
        Check.fails("throw 5", 3, 1);
        Check.fails("catch 5 []", 3, 1);
        Check.prints("to p :n if :n = 0 [throw \"t] ask :n [p :n - 1] end", "catch \"t [p 3] print who", "0\n");
        Check.prints("catch \"a [catch \"b [throw \"a] print 1] print 2", "2\n");
        Check.prints("catch \"error [throw \"x] print error catch \"error [throw \"error] print error", "11\n0\n");
        Check.prints("catch \"error [catch \"t [zz]] print error", "1\n");
        Check.prints("catch \"error [catch \"error [zz] fd \"a] print error", "3\n");
        Check.prints("catch \"error [ask 5 [print 1 / 0]] print who print error", "0\n10\n");
        TurtleWorld world = Check.ran("", "catch \"error [1 / 0]");
        Check.due("look(6)", world.look(6), 10);
        Check.due("look(1)", world.look(1), 0);
        Check.line(world, "pu");
        Check.due("look(6) of the next line", world.look(6), 0);
    }

    private static void shown() {
        Check.prints("print [a [b] []] show [a [b] []] type [x y] type \"z print [] show [] show -5 print \"w", "a [b] []\n[a [b] []]\nx yz\n[]\n-5\nw\n");
        Check.prints("show 1000000000 show -1000000000 show 0 show 10 show 99", "1000000000\n-1000000000\n0\n10\n99\n");
        StringBuilder deep = new StringBuilder();
        for (int i = 0; i < 299; i++) {
            deep.append('[');
        }
        for (int i = 0; i < 299; i++) {
            deep.append(i == 0 ? "]" : " []]");
        }
        Check.prints("make \"l [] repeat 149 [make \"l list :l []] print equalp :l :l show memberp :l list [] :l", "true\ntrue\n");
        Check.prints("to p :l :m repeat 298 [make \"l list :l [] make \"m list :m []] print equalp :l :m show :l end", "p [] []",
                "true\n" + deep + "\n");
    }

    private static void levels() {
        String deep = "to p :n if :n > 0 [p :n - 1] end";
        Check.prints(deep, "p 74 print 1", "1\n"); // the LINE, 75 CALLS, 74 LISTS
        Check.fails(deep, "p 75", 6, 1 + 74 * 4 + 2);
        Check.fails(deep, "run [p 74]", 6, 2 + 74 * 4);
        Check.prints(deep, "catch \"error [p 75] print error p 74", "6\n");
        // What is not RUN needs no LEVEL: the LINE, 147 CALLS, a LIST and q are 150.
        String full = "to p :n if :n = 0 [q stop] p :n - 1 end ";
        Check.prints(full + "to q repeat 0 [] if \"false [] foreach [] [] print map [] [] end", "p 146", "\n");
        Check.fails(full + "to q run [] end", "p 146", 6, 1 + 146 * 4 + 4);
        Check.fails(full + "to q if \"true [] end", "p 146", 6, 1 + 146 * 4 + 4);
        Check.fails(full + "to q ask 9 [] end", "p 146", 3, 1 + 146 * 4 + 4);
        Check.fails(full + "to q p 0 end", "p 146", 6, 1 + 146 * 4 + 4);
    }

    private static String times(String text, int n) {
        return text.repeat(n);
    }

    private static void waiting() {
        Check.prints("print " + times("(", 299) + "1" + times(")", 299), "1\n");
        Check.prints("to p :x print " + times("- ", 398) + ":x end", "p 7", "7\n");
        Check.prints("to p :x print " + times("- ", 399) + ":x end", "p 7", "-7\n");
        Check.fails("to p :x print " + times("- ", 400) + ":x end", "p 7", 6, 1);
        Check.fails("to p :x print " + times("minus ", 400) + ":x end", "p 7", 6, 1);
        Check.prints("to p :x print " + times("- ", 398) + "(:x) end", "p 7", "7\n");
        Check.fails("to p :x print " + times("- ", 399) + "(:x) end", "p 7", 6, 1);
        Check.prints("to p :x print " + times("- ", 398) + ":x + 1 end", "p 7", "8\n");
        Check.prints("to p :x print " + times("- ", 399) + "heading end", "p 7", "0\n");
        Check.fails("to p :x print " + times("- ", 398) + "(1 + 2) end", "p 7", 6, 1);
    }

    private static void made() {
        TurtleWorld world = Check.ran("", "make \"a fput 1 [2 3] make \"a butfirst :a make \"a word \"ab \"c make \"a word 0 7 make \"a word first [-] 5");
        Check.due("made", world.look(5), 4 + 3 + 3 + 1 + 2);
        world = Check.ran("", "show map [1 2 3] [list ? ?] show map [] [] show reverse [1 2] show sentence 1 [2 3] show butlast [1]");
        Check.due("made", world.look(5), 1 + 3 * (3 + 1) + 1 + 3 + 4 + 1);
        Check.line(world, "pu");
        Check.due("made in the next line", world.look(5), 0);
        String letters = "repeat 3000 [make \"m word \"abcdefghi \"jkl]";
        Check.fails(letters, 8, 1 + 2500 * 3 + 1);
        Check.due("made by word", Check.ran("", letters).look(5), 30000);
        String members = "to a output [1 2 3 4 5 6 7 8 9 10 11 12 13 14 15 16 17 18 19 20 21 22 23 24] end";
        Check.fails(members, "repeat 2000 [make \"m reverse a]", 8, 1 + 1200 * 5 + 3);
        String most = "repeat 1199 [make \"m reverse a] ";
        Check.due("just all that can be made", Check.ran(members, most + "make \"m map a [5]").look(5), 30000);
        Check.due("is no ERROR", Check.ran(members, most + "make \"m map a [5]").look(1), 0);
        Check.fails(members, most + "print word 1 1 print map a [5]", 8, 1 + 1199 * 4 + 1198 + 2 + 3 + 22);
        Check.fails(members, most + "print map a [5] print map [] []", 8, 1 + 1199 * 4 + 1198 + 3 + 23 + 1 + 1);
    }

    private static void sizes() {
        String list = "to a output [" + times("1 ", 500) + "] end";
        Check.prints(list, "print count sentence a [" + times("1 ", 99) + "]", "599\n");
        Check.fails(list, "print count sentence a [" + times("1 ", 100) + "]", 8, 3);
        Check.prints(list, "print count map sentence a [" + times("1 ", 99) + "] [5]", "599\n");
        Check.fails(list, "print count map a [\"ab]", 8, 3 + 299);
        Check.due("made by that map", Check.ran(list, "print map a [\"ab]").look(5), 1 + 299);
        Check.fails("print butfirst [" + times("abcdefghij ", 61) + "]", 8, 1);
        Check.fails("print reverse [" + times("abcdefghij ", 60) + "]", 8, 1);
        Check.prints("print count reverse [" + times("abcdefghij ", 59) + "abcdefghi]", "60\n");
        Check.prints("define \"p [[] [" + times("abcd ", 149) + "abc]] print arity \"p", "0\n");
        Check.fails("define \"p [[] [" + times("abcd ", 150) + "]]", 3, 1);
    }
}
