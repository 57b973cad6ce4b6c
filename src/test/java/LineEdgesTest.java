/** The edges of part II, sentence by sentence, and of promises 5, 7 to 10 and 19: how lines are run. */
public final class LineEdgesTest {
    // With p n the LINE, n + 1 CALLS of p, a LIST and q are open: n + 4 LEVELS. q's first INSTRUCTION is the 4 n + 5th.
    private static final String DEEP = "to p :n if :n = 0 [q stop] p :n - 1 end to r end ";
    // Makes 29975 by 3598 INSTRUCTIONS.
    private static final String MADE_29975 = "make \"l [1 2 3 4 5 6 7 8 9 10 11 12 13 14 15 16 17 18 19 20 21 22 23 24] repeat 1199 [make \"m reverse :l] ";
    private static final int INSTRUCTIONS_OF_29975 = 1 + 1 + 1199 * 2 + 1198;
    // Just 20000 INSTRUCTIONS.
    private static final String LONG = "repeat 5000 [pu pd pu] ";

    public static void main(String[] args) {
        linesThatEndAtOnce();
        instructionsAreCounted();
        turnsAreCounted();
        valuesTooMany();
        firstOfAnE();
        quotedNumbers();
        namesBehindAColon();
        parentheses();
        noFirst();
        signs();
        nothingIsThere();
        callsGive();
        whereNamesAreFound();
        levelsOfEachWord();
        levelsOfCalls();
        noLevelIsNeeded();
        levelsAreGivenBack();
        waitingOfEachKind();
        waitingOfAllLevels();
        madeByEachWord();
        madeTooMuch();
        madeByMap();
        tooLong();
        tooLongIsNotCaught();
        errorsOnTheWay();
        theFirstErrorOfAnInstruction();
        runsOf();
        goesTo();
        goesBackIntoLevels();
        goesBackInWhatWasCaught();
        goesFromAnywhere();
        goesBackInOut();
        goesOrNot();
        stopsAnywhere();
        theEndLeavesNoLevel();
        looks();
        callAnswers();
        Check.finish();
    }

    /** Behind line() all goes on up to the first INSTRUCTION, or to the end. */
    private static void linesThatEndAtOnce() {
        String[] texts = {"", ";", "zz", ":a", ":", "\"", ")", "5", "[a]", "\"a", "fd", "fd )", "( 5", "\"1000000001"};
        int[] members = {0, 0, 1, 1, 1, 1, 1, 1, 1, 1, 1, 2, 2, 1};
        int[] errors = {0, 0, 1, 2, 2, 3, 4, 5, 5, 5, 4, 4, 4, 9};
        for (int i = 0; i < texts.length; i++) {
            TurtleWorld world = new TurtleWorld(1);
            Check.due("line '" + texts[i] + "'", Check.line(world, texts[i]), members[i]);
            Check.due("look(0) behind '" + texts[i] + "'", world.look(0), errors[i] == 0 ? 2 : 3);
            Check.due("look(1) behind '" + texts[i] + "'", world.look(1), errors[i]);
            Check.due("look(2) behind '" + texts[i] + "'", world.look(2), 0);
            Check.due("LEVELS behind '" + texts[i] + "'", world.look(3), 0);
            Check.due("WAITING behind '" + texts[i] + "'", world.look(4), 0);
            Check.due("run behind '" + texts[i] + "'", world.run(1), 0);
            Check.due("stop behind '" + texts[i] + "'", world.stop(), false);
            Check.due("go(1) behind '" + texts[i] + "'", world.go(1), false);
            Check.due("go(0) behind '" + texts[i] + "'", world.go(0), true);
            Check.due("look(1) behind go(0) in '" + texts[i] + "'", world.look(1), errors[i]);
            Check.due("the next line", Check.line(world, "pu"), 1);
            Check.due("its look(1)", world.look(1), 0);
            Check.due("its look(0)", world.look(0), 1);
        }
    }

    private static void counts(String procedures, String text, int count) {
        TurtleWorld world = Check.world(procedures);
        Check.line(world, text);
        Check.due("the INSTRUCTIONS of '" + text + "'", world.run(Check.ALL), count);
        Check.due("look(2) behind '" + text + "'", world.look(2), count);
        Check.due("the ERROR behind '" + text + "'", world.look(1), 0);
    }

    private static void instructionsAreCounted() {
        counts("", "pu", 1);
        counts("", "make \"a 5 make \"b :a", 2);
        counts("", "make \"a (5) make \"b ((:a))", 2);
        counts("", "show - 5", 2);
        counts("", "show - - 5", 3);
        counts("", "show -5", 1);
        counts("", "make \"a 1 + 2 * 3 = 7", 4);
        counts("to p end", "p", 1);
        counts("to p output 5 end", "make \"a p", 3);
        counts("to p :a :b end", "p 1 heading", 2);
        counts("", "run [] run [pu]", 3);
        counts("", "if \"false [pu] if \"true [pu]", 3);
        counts("", "foreach [7] [make \"a ?]", 3);
        counts("", "catch \"t [throw \"t]", 2);
        counts("", "stop pu", 1);
    }

    private static void turnsAreCounted() {
        counts("", "repeat 0 [pu]", 1);
        counts("", "repeat -5 [pu]", 1);
        counts("", "repeat 1 [pu]", 2);
        counts("", "repeat 2 [pu]", 4);
        counts("", "repeat 3 []", 3);
        counts("", "foreach [] [pu]", 1);
        counts("", "foreach [a] [pu]", 2);
        counts("", "foreach [a b c] []", 3);
        counts("", "make \"a map [] [pu]", 2);
        counts("", "make \"a map [a b c] [5]", 4);
        counts("", "while [\"false] [pu]", 1);
        counts("", "make \"a \"true while [:a] [make \"a \"false]", 4);
        counts("", "make \"a 2 while [:a > 0] [make \"a :a - 1]", 1 + 1 + 1 + 4 + 4);
    }

    private static void valuesTooMany() {
        Check.fails("pu 5 pd", 5, 1);
        Check.fails("pu [a] pd", 5, 1);
        Check.fails("heading", 5, 1);
        Check.fails("(5)", 5, 0);
        Check.fails("run [5]", 5, 1);
        Check.fails("ifelse \"true [5] []", 5, 1);
        Check.fails("catch \"t [5]", 5, 1);
        Check.fails("ask 1 [5]", 5, 1);
        Check.fails("map [] []", 5, 1);
        Check.fails("to p output 5 end", "p", 5, 2);
        Check.fails("to p 5 end", "print p", 5, 1);
        Check.fails("make \"a run [5 6]", 5, 1);
        Check.fails("make \"a run [5 pu]", 5, 1);
        Check.fails("make \"a run [(5) (6)]", 5, 1);
        Check.fails("if \"true [pu 5]", 5, 2);
        Check.fails("repeat 2 [5]", 5, 1);
        Check.fails("foreach [1] [5]", 5, 1);
        Check.fails("while [\"true] [5]", 5, 1);
        Check.fails("while [\"true pu] []", 5, 1);
    }

    private static void firstOfAnE() {
        Check.prints("show 5 show -5 show [a [b]] show [] show \"a show \"A:b", "5\n-5\n[a [b]]\n[]\na\nA:b\n");
        Check.prints("show \"fd show \"to show \"\"a show \":a show \"? show \"true", "fd\nto\n\"a\n:a\n?\ntrue\n");
        Check.prints("make \"a [x] show :a make \":a 5 show ::a make \"\"a 6 show :\"a", "[x]\n5\n6\n");
        Check.prints("make \"5a 1 make \"fd 2 show :5a + :fd", "3\n");
    }

    /** What is behind a " is a NUMBER if it is digits alone, with - ahead or not. */
    private static void quotedNumbers() {
        Check.prints("show numberp \"5 show numberp \"007 show \"007 show numberp \"5a show numberp \"a5", "true\ntrue\n7\nfalse\nfalse\n");
        Check.prints("show \"1000000000 show \"0000000000000000000001", "1000000000\n1\n");
        Check.fails("show \"1000000001", 9, 0);
        Check.fails("show \"99999999999999999999999999999", 9, 0);
        Check.fails("pu show \"1000000001", 9, 1);
        // With a - such a WORD has to be made first.
        Check.prints("show run fput word first [\"] -1000000000 []", "-1000000000\n");
        Check.prints("show numberp run fput word first [\"] -5 []", "true\n");
        Check.fails("show run fput word word first [\"] -1000000000 1 []", 9, 5);
        Check.prints("show wordp run fput word first [\"] first [-] []", "true\n");
        Check.prints("show run fput word first [\"] first [-5a] []", "-5a\n");
        Check.fails("show \"", 3, 0);
        Check.fails("show sum 1 \"", 3, 0);
        Check.fails("pu \"", 3, 1);
    }

    private static void namesBehindAColon() {
        Check.fails("show :a", 2, 0);
        Check.fails("show :", 2, 0);
        Check.fails("make \"a 5 show :A", 2, 1);
        Check.fails("make \"a 5 show :ab", 2, 1);
        Check.fails("make \"ab 5 show :a", 2, 1);
        Check.fails("pu :", 2, 1);
    }

    private static void parentheses() {
        Check.prints("show (5) show ((5)) show (1 + 2) * 3 (pu) ((pu)) show (sum 1 2)", "5\n5\n9\n3\n");
        Check.prints("to f :a output :a end", "show f (5) show (f 5) + 1", "5\n6\n");
        Check.fails("show (5", 4, 0);
        Check.fails("show (5 6)", 4, 0);
        Check.fails("show (5 pu)", 4, 0);
        Check.fails("(pu", 4, 1);
        Check.fails("(pu pu)", 4, 1);
        Check.fails("show ()", 4, 0);
        Check.fails("(", 4, 0);
        Check.fails("( )", 4, 0);
        Check.fails("show (5 + )", 4, 0);
        Check.fails("show run [(5] )", 4, 1);
        Check.fails("(pu) )", 4, 1);
        Check.fails("(pu) + 1", 4, 1);
        Check.fails("show (pu)", 4, 1);
    }

    /** No member left, a ) or another SIGN, and any other WORD. */
    private static void noFirst() {
        for (String sign : new String[] {")", "+", "*", "/", "=", "<", ">"}) {
            Check.fails(sign, 4, 0);
            Check.fails("pu " + sign + " 5", 4, 1);
            Check.fails("show " + sign + " 5", 4, 0);
            Check.fails("show 5 + " + sign + " 5", 4, 0);
            Check.fails("show - " + sign + " 5", 4, 0);
            Check.fails("show (" + sign + " 5)", 4, 0);
        }
        for (String open : new String[] {"show", "sum 5", "show 5 +", "show 5 *", "show -", "show (", "-", "show (sum 1 2) ="}) {
            Check.fails(open, 4, open.contains("=") ? 1 : 0);
            Check.fails("run [" + open + "] 5", 4, open.contains("=") ? 2 : 1);
        }
        Check.fails("to f :a :b end", "f 1", 4, 0);
        for (String word : new String[] {"zz", "to", "end", "FD", "true", "error1", "-5a", "5a", "a\"", "a:"}) {
            Check.fails(word, 1, 0);
            Check.fails("pu show " + word, 1, 1);
            Check.fails("show 5 + " + word, 1, 0);
        }
        Check.fails("show 5 to", 1, 1);
        Check.prints("show 5 show 6", "5\n6\n");
    }

    private static void signs() {
        // Each is as its WORD, and what is of one strength goes from left to right.
        Check.prints("show 7 = 7 show 7 < 7 show 7 > 7 show 7 + 2 show 7 - 2 show 7 * 2 show 7 / 2", "true\nfalse\nfalse\n9\n5\n14\n3\n");
        Check.prints("show 3 < 4 show 4 < 3 show 3 > 4 show 4 > 3 show [a] = [a] show \"a = [a]", "true\nfalse\nfalse\ntrue\ntrue\nfalse\n");
        Check.prints("show 9 - 4 - 3 show 9 - 4 + 3 show 24 / 4 / 3 show 24 / 4 * 3 show 8 * 9 / 10", "2\n8\n2\n18\n7\n");
        Check.prints("show 1 < 2 = \"true show 5 = 5 = \"true show 2 > 1 = \"true", "true\ntrue\ntrue\n");
        Check.fails("show 1 = 2 < 3", 3, 2);
        Check.fails("show 1 = 2 > 3", 3, 2);
        Check.fails("show 1 < 2 > 3", 3, 2);
        Check.prints("show 1 < 2 + 3 show 9 > 2 + 3 show 9 > 10 - 3 show 1 < 2 * 3 show 5 = 10 / 2 show 7 = 10 - 3", "true\n".repeat(6));
        Check.prints("show (1 = 1) show (1 < 2) show (1 + 2 = 3)", "true\n".repeat(3));
        Check.prints("to f :a :b output list :a :b end", "show f 1 = 1 2 < 1 show list 1 = 1 2 + 3 * 4", "[true false]\n[true 14]\n");
        // A weaker one ends the right side, a stronger one belongs to it.
        Check.prints("show 1 + 2 * 3 show 2 * 3 + 1 show 1 + 2 = 3 show 3 = 1 + 2 show 2 + 3 * 4 - 5 > 8", "7\n7\ntrue\ntrue\ntrue\n");
        Check.prints("show 10 - 2 * 3 - 1 show 1 = 2 + 3 * 4 show 2 * 3 * 4 + 5 * 6", "3\nfalse\n54\n");
        // - ahead is stronger than all of them, an input as weak as a LIST's E.
        Check.prints("show - 2 + 3 show - 2 * 3 show 7 - - 2 show - - 2 show - (2 + 3) show 2 * - 3", "1\n-6\n9\n2\n-5\n-6\n");
        Check.prints("show not 1 = 2 show - sum 1 2 + 3 show minus 2 + 3", "true\n-6\n-5\n");
        Check.fails("show 1 < 2 < 3", 3, 2);
        Check.fails("show [a] < 1", 3, 1);
        Check.fails("show \"a > 1", 3, 1);
    }

    /** What should be a VALUE and is nothing. */
    private static void nothingIsThere() {
        for (String sign : new String[] {"+", "-", "*", "/", "=", "<", ">"}) {
            Check.fails("pu " + sign + " 5", 4, 1);
            Check.fails("(pu) " + sign + " 5", 4, 1);
            Check.fails("show pu " + sign + " 5", 4, 1);
            Check.fails("show 5 " + sign + " pu", 4, 1);
            Check.fails("to f end", "show 5 " + sign + " f", 4, 1);
        }
        Check.fails("show pu", 4, 1);
        Check.fails("show sum 1 pu", 4, 1);
        Check.fails("show - pu", 4, 1);
        Check.fails("show run []", 4, 1);
        Check.fails("show if \"true []", 4, 1);
        Check.fails("show ifelse \"true [] [5]", 4, 1);
        Check.fails("show catch \"t [throw \"t]", 4, 2);
        Check.fails("show catch \"error [zz]", 4, 1);
        Check.fails("show ask 1 [pu]", 4, 2);
        Check.fails("to f :a end", "f pu", 4, 1);
        Check.fails("to f stop end", "show f", 4, 2);
        // What is met ahead of it has been done.
        TurtleWorld world = Check.ran("", "fd 5 + pu");
        Check.due("pu has been APPLIED", world.turtle(0, 2), 0);
        Check.due("fd has not", world.place(0, 1, 0), 0);
    }

    private static void callsGive() {
        Check.prints("to f output [] end to g :a output :a output 6 end to h if \"true [output 7] end", "show f show g 5 show h", "[]\n5\n7\n");
        Check.prints("to f pu end to g f end to h output run [output 5] end", "f g show h", "5\n");
        Check.fails("to f output pu end", "show f", 4, 2);
        Check.fails("to f output 5 end to g f end", "g", 5, 3);
        Check.prints("to f :a repeat 3 [output :a] end", "show f 8", "8\n");
        Check.prints("to f while [output 4] [] end to g show map [1 2] [output ?] end", "show f show g", "4\n1\n");
        // What waits within the CALL that is left waits no more.
        Check.prints("to f show sum 1 (2 + run [output 5]) end", "show f", "5\n");
    }

    private static void whereNamesAreFound() {
        Check.prints("to f :a g end to g show :a make \"a 6 show :a end", "make \"a 1 f 5 show :a", "5\n6\n1\n");
        Check.prints("to f :a g 7 show :a end to g :a make \"a 8 show :a end", "f 5", "8\n5\n");
        Check.prints("to f local \"a g show :a end to g make \"a 6 end", "make \"a 1 f show :a", "6\n1\n");
        Check.prints("to f local \"a show namep \"a g end to g show namep \"a end", "make \"a 1 f show namep \"a", "false\nfalse\ntrue\n");
        Check.fails("to f local \"a g end to g show :a end", "make \"a 1 f", 2, 4);
        Check.fails("to f local \"a g end to g show thing \"a end", "make \"a 1 f", 2, 5);
        Check.fails("to f :a end", "f 5 show :a", 2, 1);
        Check.prints("to f :a run [show :a make \"a 2] show :a end", "f 5", "5\n2\n");
    }

    // Each opens one LEVEL.
    private static final String[] RUNNING = {"run []", "if \"true []", "ifelse \"true [] []", "repeat 1 []", "while [\"false] []", "foreach [1] []",
        "ask 0 []", "catch \"error []", "r"};

    /** The 150th LEVEL can be had, the 151st not. */
    private static void levelsOfEachWord() {
        for (String text : RUNNING) {
            String q = DEEP + "to q " + text + " print 1 end";
            Check.prints(q, "p 145", "1\n");
            Check.refuses(q, "p 146", 6, 4 * 146 + 5);
            Check.refuses(DEEP + "to q catch \"t [" + text + "] end", "p 145", 6, 4 * 145 + 6);
        }
        Check.prints(DEEP + "to q show map [1] [5] end", "p 145", "[5]\n");
        Check.refuses(DEEP + "to q show map [1] [5] end", "p 146", 6, 4 * 146 + 5);
        Check.prints(DEEP + "to q while [\"true] [stop] end", "p 145 print 1", "1\n");
        TurtleWorld world = Check.world(DEEP + "to q run [pu] end");
        Check.line(world, "p 145");
        world.run(4 * 145 + 4);
        Check.due("LEVELS at run", world.look(3), 149);
        world.run(1);
        Check.due("LEVELS at pu", world.look(3), 150);
        Check.due("CALLS at pu", world.look(13), 147);
    }

    private static void levelsOfCalls() {
        TurtleWorld world = Check.world("to f f end");
        Check.line(world, "f");
        Check.due("CALLS of 149", world.run(149), 149);
        Check.due("LEVELS", world.look(3), 150);
        Check.due("CALLS", world.look(13), 149);
        Check.due("under way", world.look(0), 1);
        Check.due("the oldest", world.call(148, 0), 0);
        Check.due("none ahead of it", world.call(149, 0), -1);
        Check.due("one more", world.run(9), 1);
        Check.due("too deep", world.look(1), 6);
        Check.due("LEVELS", world.look(3), 0);
        Check.due("CALLS", world.look(13), 0);
        // 12 LOCAL NAMES in each of 149 CALLS.
        StringBuilder many = new StringBuilder("to f :n :a :b :c :d ");
        for (char c = 'e'; c <= 'k'; c++) {
            many.append("local \"").append(c).append(" make \"").append(c).append(" :n ");
        }
        many.append("if :n = 1 [stop] f :n - 1 :n :n :n :n make \"s :s + :k end");
        Check.prints(many.toString(), "make \"s 0 f 148 0 0 0 0 show :s", 148 * 149 / 2 - 1 + "\n");
    }

    private static void noLevelIsNeeded() {
        String none = "to q if \"false [zz] repeat 0 [zz] repeat -1 [zz] foreach [] [zz] show map [] [zz] show repcount end";
        Check.prints(DEEP + none, "p 146", "[]\n0\n");
    }

    private static void levelsAreGivenBack() {
        TurtleWorld world = Check.world(DEEP + "to q throw \"t end to s :n if :n = 0 [zz] s :n - 1 end");
        Check.line(world, "repeat 3 [catch \"t [p 140]] repeat 3 [catch \"error [s 140]] pu");
        int done = world.run(Check.ALL);
        Check.due("no ERROR", world.look(1), 0);
        world.go(done - 1);
        Check.due("LEVELS", world.look(3), 1);
        Check.due("CALLS", world.look(13), 0);
        Check.due("WAITING", world.look(4), 0);
    }

    private static void waitingOfEachKind() {
        String id = "to f :a output :a end to g :a :b output :b end";
        for (String word : new String[] {"- ", "minus ", "f ", "sum 0 ", "g 0 "}) {
            int most = word.contains("0") ? 90 : 399;
            String ahead = "- ".repeat(399 - most);
            Check.prints(id, "make \"a heading show " + ahead + word.repeat(most) + ":a", "0\n");
            Check.fails(id, "make \"a heading show " + ahead + word.repeat(most + 1) + ":a", 6, 2);
        }
        Check.prints("make \"a heading show " + "- ".repeat(349) + "(".repeat(50) + ":a" + ")".repeat(50), "0\n");
        Check.fails("make \"a heading show " + "- ".repeat(349) + "(".repeat(51) + ":a" + ")".repeat(51), 6, 2);
        Check.prints("make \"a heading show " + "- ".repeat(397) + "(:a + 7 )", "-7\n");
        Check.fails("make \"a heading show " + "- ".repeat(398) + "(:a + 7 )", 6, 2);
        // A WORD or procedure without inputs never waits, and what has all its inputs waits no more.
        TurtleWorld world = Check.world("to h output 3 end");
        Check.line(world, "show " + "- ".repeat(398) + "h");
        Check.due("WAITING at h", world.look(4), 399);
        world.run(1);
        Check.due("WAITING at output 3", world.look(4), 399);
        Check.due("LEVELS at output 3", world.look(3), 2);
        world.run(1);
        Check.due("WAITING at the last -", world.look(4), 398);
        world.run(Check.ALL);
        Check.due("OUT", Check.out(world), "3\n");
        Check.fails("to h output 3 end", "show " + "- ".repeat(399) + "h", 6, 1);
        Check.fails("to h output 3 + 4 end", "show " + "- ".repeat(398) + "h", 6, 1);
        Check.line(world, "show " + "- ".repeat(399) + "heading");
        Check.due("WAITING at heading", world.look(4), 400);
        Check.due("that is no ERROR", world.run(Check.ALL), 401);
    }

    private static void waitingOfAllLevels() {
        Check.prints("show " + "- ".repeat(199) + "run [" + "- ".repeat(200) + "5]", "-5\n");
        Check.fails("show " + "- ".repeat(199) + "run [" + "- ".repeat(201) + "5]", 6, 1);
        Check.prints("to f :a output " + "- ".repeat(200) + ":a end", "show " + "- ".repeat(198) + "f 5", "5\n");
        Check.fails("to f :a output " + "- ".repeat(201) + ":a end", "show " + "- ".repeat(198) + "f 5", 6, 1);
        Check.prints("catch \"error [show " + "- ".repeat(401) + "5] show error show " + "- ".repeat(50) + "7", "6\n7\n");
        Check.prints("to f :n if :n = 0 [output 0] output 1 + f :n - 1 end", "show f 73", "73\n");
    }

    private static void made(String text, int due) {
        TurtleWorld world = Check.ran("", "make \"a " + text);
        Check.due("the ERROR of " + text, world.look(1), 0);
        Check.due("MADE by " + text, world.look(5), due);
    }

    private static void madeByEachWord() {
        made("word \"ab \"cde", 5);
        made("word \"a -15", 4);
        made("word 1 25", 3);
        made("word 0 7", 1);
        made("word 0 0", 1);
        made("word first [-] 0", 1);
        made("word first [-] 25", 3);
        made("butfirst [a b c]", 3);
        made("butfirst [a]", 1);
        made("butlast [a b c]", 3);
        made("butlast [[a b c]]", 1);
        made("fput [a b] [c]", 3);
        made("fput 5 []", 2);
        made("lput \"abc [a b c]", 5);
        made("lput 5 []", 2);
        made("sentence [] []", 1);
        made("sentence [a b] [c]", 4);
        made("sentence 5 \"abc", 3);
        made("list [] []", 3);
        made("reverse []", 1);
        made("reverse [[a b] c]", 3);
        made("map [] [zz]", 1);
        made("map [a b] [[x y z]]", 3);
        for (String text : new String[] {"first [abc]", "last [abc]", "item 1 [[a]]", "count [a]", "[a b c]", "1 + 2", "\"abc", "memberp 1 [1]", "run [[a]]"}) {
            made(text, 0);
        }
        TurtleWorld world = Check.ran("", "print [a b] define \"p [[] [a]] make \"a text \"p");
        Check.due("MADE by define and text", world.look(5), 0);
        Check.line(world, "make \"a list 1 2 make \"a list 3 4");
        Check.due("MADE at first", world.look(5), 0);
        world.run(1);
        Check.due("MADE by the first list", world.look(5), 3);
        world.run(Check.ALL);
        Check.due("MADE by both", world.look(5), 6);
        world.go(1);
        Check.due("MADE by the first one again", world.look(5), 3);
        world.stop();
        Check.due("MADE behind stop()", world.look(5), 3);
    }

    private static void makesJust(int made, String text) {
        TurtleWorld world = Check.ran("", MADE_29975 + text);
        Check.due("the ERROR of " + text, world.look(1), 0);
        Check.due("MADE behind " + text, world.look(5), made);
    }

    private static void makesTooMuch(String text, int instructions) {
        Check.refuses("", MADE_29975 + text, 8, INSTRUCTIONS_OF_29975 + instructions);
    }

    private static String upTo(int n) {
        StringBuilder text = new StringBuilder("[");
        for (int i = 1; i <= n; i++) {
            text.append(i).append(i < n ? " " : "]");
        }
        return text.toString();
    }

    /** 30000 can be made in a LINE, one more not. */
    private static void madeTooMuch() {
        makesJust(29975, "");
        for (String word : new String[] {"fput 0", "lput 0", "sentence 0", "sentence [0]"}) {
            makesJust(30000, "make \"a " + word + " " + upTo(23));
            makesTooMuch("make \"a " + word + " " + upTo(24), 1);
        }
        for (String word : new String[] {"butfirst", "butlast"}) {
            makesJust(30000, "make \"a " + word + " " + upTo(25));
            makesTooMuch("make \"a " + word + " " + upTo(26), 1);
        }
        makesJust(30000, "make \"a reverse " + upTo(24));
        makesTooMuch("make \"a reverse " + upTo(25), 1);
        makesJust(30000, "make \"a word \"abcdefghijklm \"abcdefghijkl");
        makesTooMuch("make \"a word \"abcdefghijklm \"abcdefghijklm", 1);
        makesJust(30000, "make \"a reverse " + upTo(21) + " make \"a list 1 2");
        makesTooMuch("make \"a reverse " + upTo(22) + " make \"a list 1 2", 3);
        // A NUMBER counts as it is SHOWN.
        makesJust(30000, "make \"a reverse " + upTo(23) + " make \"a word 0 7");
        makesTooMuch("make \"a reverse " + upTo(23) + " make \"a word 1 7", 3);
        // What would be more has not been made: less can be made still.
        makesJust(30000, "make \"a reverse " + upTo(23) + " catch \"error [make \"a word 1 7] make \"a word 0 7");
    }

    /** 1 as it is APPLIED, and one for each VALUE as it comes. */
    private static void madeByMap() {
        String to29999 = "make \"a reverse " + upTo(23) + " ";
        makesJust(30000, to29999 + "make \"a map [] []");
        makesTooMuch("make \"a reverse " + upTo(24) + " make \"a map [] []", 3);
        makesTooMuch("make \"a reverse " + upTo(24) + " make \"a map [1] [5]", 3);
        makesJust(30000, "make \"a reverse " + upTo(22) + " make \"a map [1] [5]");
        makesJust(30000, "make \"a map " + upTo(24) + " [5]");
        TurtleWorld world = Check.ran("", MADE_29975 + to29999 + "make \"a map [1] [5]");
        Check.due("a VALUE too much", world.look(1), 8);
        Check.due("behind the INSTRUCTION map", world.look(2), INSTRUCTIONS_OF_29975 + 3);
        Check.due("which has been APPLIED", world.look(5), 30000);
        world = Check.ran("", MADE_29975 + "make \"a map " + upTo(25) + " [5]");
        Check.due("the 25th VALUE too much", world.look(1), 8);
        Check.due("behind the 25th turn", world.look(2), INSTRUCTIONS_OF_29975 + 25);
        world = Check.world("");
        Check.line(world, "make \"a map [1 2 3] [pu 5]");
        int[] due = {0, 1, 2, 2, 3, 3, 4};
        for (int n = 0; n < due.length; n++) {
            Check.due("MADE behind " + n, world.look(5), due[n]);
            world.run(1);
        }
    }

    private static void tooLong() {
        counts("", LONG, 20000);
        counts("", "", 0);
        Check.fails(LONG + "pu", 13, 20000);
        Check.fails(LONG + "repeat 0 []", 13, 20000);
        Check.fails(LONG + "show 1 + 2", 13, 20000);
        Check.fails("to f end", LONG + "f", 13, 20000);
        Check.fails("repeat 5001 [pu pd pu]", 13, 20000);
        Check.fails("repeat 1000000000 []", 13, 20000);
        Check.fails("while [\"true] []", 13, 20000);
        Check.fails("to f output \"true end", "while [f] []", 13, 20000);
        Check.fails("to f f2 end to f2 end", "repeat 30000 [f]", 13, 20000);
        // What needs no INSTRUCTION goes on behind the 20000th.
        Check.fails(LONG + "zz", 1, 20000);
        Check.fails(LONG + "5", 5, 20000);
        Check.fails(LONG + "show", 4, 20000);
        Check.fails(LONG + "show :a", 2, 20000);
        // The next turns of foreach and map: 1 + 3 + 2 of them and 4999 times 3 + 1 are 20002.
        Check.fails("repeat 4999 [pu pd pu] pu pu foreach [1 2 3] [pu]", 13, 20000);
        Check.fails("repeat 4999 [pu pd pu] pu pu show map [1 2 3] [pu 5]", 13, 20000);
        TurtleWorld world = Check.world("");
        Check.line(world, LONG + "pu");
        Check.due("run(19999)", world.run(19999), 19999);
        Check.due("under way", world.look(0), 1);
        Check.due("run(the greatest)", world.run(Integer.MAX_VALUE), 1);
        Check.due("ended", world.look(0), 3);
    }

    private static void tooLongIsNotCaught() {
        TurtleWorld world = Check.world("");
        Check.line(world, "tell 2 catch \"error [catch \"x [ask 5 [while [\"true] []]]] pu");
        Check.due("run", world.run(Check.ALL), 20000);
        Check.due("ERROR 13", world.look(1), 13);
        Check.due("that no catch had", world.look(6), 0);
        Check.due("TOLD", world.look(7), 2);
        Check.due("pu has not been run", world.turtle(2, 2), 1);
        Check.due("the next line has its own", Check.line(world, "pu"), 1);
        Check.due("run of that", world.run(Check.ALL), 1);
    }

    /** Behind an INSTRUCTION all goes on up to the next: ERRORS and the end belong to it. */
    private static void errorsOnTheWay() {
        TurtleWorld world = Check.world("to f output 5 end");
        Check.line(world, "pu catch \"error [zz] pd catch \"error [f pu] show");
        int[][] due = {{1, 1, 0}, {1, 1, 0}, {1, 1, 1}, {1, 1, 1}, {2, 1, 1}, {3, 1, 1}};
        for (int n = 0; n < due.length; n++) {
            Check.due("LEVELS behind " + n, world.look(3), due[n][0]);
            Check.due("look(0) behind " + n, world.look(0), due[n][1]);
            Check.due("look(6) behind " + n, world.look(6), due[n][2]);
            world.run(1);
        }
        Check.due("what output gave was too much, and show has no input", world.look(1), 4);
        Check.due("INSTRUCTIONS", world.look(2), 6);
        Check.due("look(6)", world.look(6), 5);
        world = Check.ran("", "repeat 2 [pu] zz");
        Check.due("the end of a repeat is no INSTRUCTION", world.look(2), 4);
    }

    /** The first input that is not as said, then as its line says. */
    private static void theFirstErrorOfAnInstruction() {
        Check.refuses("show quotient \"a 0", 3, 1);
        Check.refuses("show remainder [] 0", 3, 1);
        Check.refuses("show quotient 1000000000 0", 10, 1);
        Check.refuses("local 5", 3, 1);
        Check.refuses("make 5 [" + "1 ".repeat(300) + "]", 3, 1);
        Check.refuses("show word [a] \"b", 3, 1);
        Check.refuses("repeat 500 [fd 1000] fd 1001", 3, 1001);
        Check.refuses("repeat 500 [fd 1000] fd 1", 7, 1001);
        Check.refuses("show text 5", 3, 1);
        Check.refuses("throw 5", 3, 1);
        Check.refuses(DEEP + "to q ask 8 [] end", "p 146", 3, 4 * 146 + 5);
        Check.refuses(DEEP + "to q repeat \"a [] end", "p 146", 3, 4 * 146 + 5);
        Check.refuses(DEEP + "to q catch 5 [] end", "p 146", 3, 4 * 146 + 5);
        Check.refuses(DEEP + "to q run 5 end", "p 146", 3, 4 * 146 + 5);
        Check.refuses("repeat 40 [define word \"p repcount [[] []]] define \"q [[] 5]", 3, 1 + 40 * 3 + 39 + 1);
        Check.refuses("repeat 40 [define word \"p repcount [[] []]] define \"q [[] []]", 8, 1 + 40 * 3 + 39 + 1);
    }

    private static void runsOf() {
        TurtleWorld world = new TurtleWorld(1);
        Check.due("run without a LINE", world.run(5), 0);
        Check.line(world, "pu pd pu pd");
        Check.due("run(0)", world.run(0), 0);
        Check.due("run(-1)", world.run(-1), 0);
        Check.due("run(the least)", world.run(Integer.MIN_VALUE), 0);
        Check.due("they have done nothing", world.look(2), 0);
        Check.due("run(1)", world.run(1), 1);
        Check.due("the pen is up", world.turtle(0, 2), 0);
        Check.due("run(2)", world.run(2), 2);
        Check.due("look(2)", world.look(2), 3);
        Check.due("run(2) of one that is left", world.run(2), 1);
        Check.due("run behind the end", world.run(2), 0);
        Check.line(world, "pu show zz pd");
        Check.due("up to an ERROR on the way", world.run(5), 1);
        Check.due("run behind an ERROR", world.run(5), 0);
        Check.line(world, "pu fd \"a pd");
        Check.due("with the INSTRUCTION of the ERROR", world.run(5), 2);
    }

    private static String stand(TurtleWorld world) {
        StringBuilder text = new StringBuilder(Check.all(world));
        for (int what = 0; what < 14; what++) {
            text.append(' ').append(world.look(what));
        }
        for (int k = 0; world.call(k, 0) != -1; k++) {
            text.append(" call ").append(world.call(k, 0)).append(' ').append(world.call(k, 1)).append(' ').append(world.call(k, 2));
        }
        return text.toString();
    }

    /** Back to each INSTRUCTION from the end, and from there to the end again. */
    private static void goesAnywhereIn(String procedures, String text) {
        TurtleWorld world = Check.world(procedures);
        Check.line(world, text);
        java.util.ArrayList<String> stands = new java.util.ArrayList<>();
        stands.add(stand(world));
        while (world.run(1) == 1) {
            stands.add(stand(world));
        }
        int done = stands.size() - 1;
        for (int n = done; n >= 0; n--) {
            Check.due("go(" + n + ") in '" + text + "'", world.go(n), true);
            Check.due("all behind go(" + n + ") in '" + text + "'", stand(world), stands.get(n));
            Check.due("go(" + (n + 1) + ") behind that", world.go(n + 1), false);
            Check.due("it has changed nothing", stand(world), stands.get(n));
            Check.due("run from " + n, world.run(Check.ALL), done - n);
            Check.due("all at the end of '" + text + "'", stand(world), stands.get(done));
        }
    }

    private static void goesTo() {
        goesAnywhereIn("to f :n local \"a make \"a :n if :n = 0 [output random 9] output f :n - 1 end",
                "make \"g f 3 make \"h [1] make \"g :h setpen 5 fd 7 show list :g :h tell 3 rt 30 pu clean");
        goesAnywhereIn("to f print 1 end", "f define \"f [[a] [print :a]] f 5 define \"g [[] [f 6]] g define \"f [[] []] f");
        goesAnywhereIn("", "pu fd \"a");
        goesAnywhereIn("", "pu show zz");
        goesAnywhereIn("", "show 5 stop show 6");
        goesAnywhereIn("", "");
    }

    private static void goesBackIntoLevels() {
        goesAnywhereIn("to f :a ask :a [tell 7 output sum who run [who]] end", "tell 2 show f 4 repeat 2 [ask repcount [fd repcount]]");
        goesAnywhereIn("", "show map [1 2 3] [foreach [a b] [type ?] ? * ?] make \"n 2 while [:n > 0] [make \"n :n - 1 type :n]");
        goesAnywhereIn("to f :n if :n = 0 [throw \"t] ask :n [f :n - 1] end", "catch \"t [f 3] show who");
    }

    private static void goesBackInWhatWasCaught() {
        goesAnywhereIn("", "catch \"error [zz] show error catch \"error [show 1 / 0] show error show error");
        goesAnywhereIn("", "catch \"error [make \"a list 1 [2] show :b] show error show map [1] [list ? ?]");
    }

    /** From within CALLS, asks and maps, without an end between: nothing of them may be left. */
    private static void goesFromAnywhere() {
        String text = "show namep \"a f 5 show map [1 2] [sum ? ask ? [tell 7 f2 ?]] show namep \"c";
        TurtleWorld world = Check.world("to f :a local \"b make \"b :a make \"c list :a :b g end to g pu pd end to f2 :a output :a + who end");
        Check.line(world, text);
        java.util.ArrayList<String> stands = new java.util.ArrayList<>();
        stands.add(stand(world));
        while (world.run(1) == 1) {
            stands.add(stand(world));
        }
        Check.due("no ERROR", world.look(1), 0);
        Check.due("OUT", Check.out(world), "false\n[9 11]\ntrue\n");
        int done = stands.size() - 1;
        for (int from = 0; from <= done; from++) {
            for (int to = 0; to <= from; to++) {
                world.go(0);
                world.run(from);
                Check.due("go(" + to + ") from " + from, world.go(to), true);
                Check.due("all behind go(" + to + ") from " + from, stand(world), stands.get(to));
            }
        }
        // What the LINE brought is no more there behind go(0), nor is a place for it.
        world.go(0);
        Check.due("GLOBAL NAMES", world.look(8), 0);
        Check.due("name(0, 0)", world.name(0, 0), -1);
        Check.due("value(0, 0)", world.value(0, 0), -1);
        Check.due("call(0, 0)", world.call(0, 0), -1);
        world = Check.world("");
        Check.line(world, "define \"p [[] []] pu");
        world.run(1);
        world.go(0);
        Check.due("procedures", world.look(9), 0);
        Check.due("procedure(0, 0)", world.procedure(0, 0), -1);
    }

    /** OUT is as it was, also where it was full and signs have been dropped since. */
    private static void goesBackInOut() {
        TurtleWorld world = Check.ran("", "repeat 230 [type \"abcdefghij]");
        String before = Check.out(world);
        Check.due("signs", before.length(), 2000);
        Check.line(world, "type \"123x repeat 300 [type \"ABCDEFGHIJK]");
        world.run(1);
        String first = Check.out(world);
        Check.due("the latest ones", first, before.substring(4) + "123x");
        world.run(Check.ALL);
        Check.due("others", Check.out(world), "ABCDEFGHIJK".repeat(300).substring(1300));
        world.go(1);
        Check.due("OUT behind go(1)", Check.out(world), first);
        world.go(0);
        Check.due("OUT behind go(0)", Check.out(world), before);
    }

    private static void goesOrNot() {
        TurtleWorld world = new TurtleWorld(1);
        Check.due("go without a LINE", world.go(0), false);
        Check.due("a FAULT", Check.line(world, "]"), -4);
        Check.due("is no LINE", world.go(0), false);
        Check.due("define", Check.define(world, "to p print 1 end"), 1);
        Check.due("is none, too", world.go(0), false);
        Check.line(world, "p pu");
        Check.due("go(-1)", world.go(-1), false);
        Check.due("go(the least)", world.go(Integer.MIN_VALUE), false);
        Check.due("go(1) with none done", world.go(1), false);
        Check.due("go(0)", world.go(0), true);
        world.run(2);
        Check.due("go(3) with 2 done", world.go(3), false);
        Check.due("go(the greatest)", world.go(Integer.MAX_VALUE), false);
        Check.due("go(2) where it stands", world.go(2), true);
        world.run(9);
        Check.due("ended", world.look(0), 2);
        Check.due("a FAULT of line()", Check.line(world, "["), -4);
        Check.due("the LINE ahead stays", world.look(2), 3);
        Check.due("go(3) in it", world.go(3), true);
        Check.due("a FAULT of define()", Check.define(world, "to q end to"), -8);
        Check.due("go(3) behind it", world.go(3), true);
        Check.due("define() of no procedure", Check.define(world, ";"), 0);
        Check.due("go(3) behind it", world.go(3), true);
        Check.due("define() of one that was there", Check.define(world, "to p print 1 end"), 1);
        String before = stand(world);
        Check.due("go(3) behind that", world.go(3), false);
        Check.due("go(0) behind that", world.go(0), false);
        Check.due("they change nothing", stand(world), before);
        Check.due("the next LINE", Check.line(world, "pu pd"), 2);
        world.run(9);
        Check.due("can be gone back in", world.go(1), true);
        world.stop();
        Check.due("behind stop(), too", world.go(1), true);
        Check.due("and is under way", world.look(0), 1);
        Check.due("up to its end", world.run(9), 1);
    }

    private static void stopsAnywhere() {
        TurtleWorld world = new TurtleWorld(1);
        Check.due("stop without a LINE", world.stop(), false);
        Check.due("look(0)", world.look(0), 0);
        Check.line(world, "pu pd");
        Check.due("stop at the beginning", world.stop(), true);
        Check.due("look(0)", world.look(0), 4);
        Check.due("look(1)", world.look(1), 0);
        Check.due("stop again", world.stop(), false);
        Check.due("look(0) still", world.look(0), 4);
        Check.due("run behind it", world.run(1), 0);
        Check.due("a line behind it", Check.line(world, "pu"), 1);
        world.run(1);
        Check.due("stop behind the end", world.stop(), false);
        Check.due("look(0)", world.look(0), 2);
        Check.line(world, "zz");
        Check.due("stop behind an ERROR", world.stop(), false);
        Check.due("look(1)", world.look(1), 1);
        Check.line(world, "tell 1 ask 2 [ask 3 [tell 4 pu]]");
        world.run(4);
        Check.due("TOLD", world.look(7), 4);
        Check.due("stop within two asks", world.stop(), true);
        Check.due("TOLD is what it was", world.look(7), 1);
        Check.line(world, "catch \"error [catch \"t [pu]] pd");
        world.run(2);
        Check.due("stop within a catch", world.stop(), true);
        Check.due("the LINE ENDS", world.look(0), 4);
        Check.due("look(6)", world.look(6), 0);
    }

    /** LEVELS, WAITING and CALLS are 0 when the LINE has ENDED, whichever way. */
    private static void theEndLeavesNoLevel() {
        String procedures = "to f :a show 1 + run [pu g] end to g pd zz end";
        for (String text : new String[] {"show f 5", "catch \"x [show f 5]", "repeat 3 [ask 2 [show - f 5]]"}) {
            TurtleWorld world = Check.ran(procedures, text);
            Check.due("the ERROR", world.look(1), 1);
            endedWithoutLevels(world);
            world.go(world.look(2) - 1);
            Check.due("LEVELS ahead of it", world.look(3) > 3, true);
            Check.due("WAITING ahead of it", world.look(4) > 1, true);
            Check.due("CALLS ahead of it", world.look(13), 2);
            world.stop();
            endedWithoutLevels(world);
        }
        TurtleWorld world = Check.ran("", "show run [repeat 2 [show sum 1 run [stop]]]");
        Check.due("all run", world.look(0), 2);
        Check.due("no ERROR", world.look(1), 0);
        endedWithoutLevels(world);
    }

    private static void endedWithoutLevels(TurtleWorld world) {
        Check.due("LEVELS at the end", world.look(3), 0);
        Check.due("WAITING at the end", world.look(4), 0);
        Check.due("CALLS at the end", world.look(13), 0);
        Check.due("TOLD at the end", world.look(7), 0);
        Check.due("call(0, 0) at the end", world.call(0, 0), -1);
    }

    private static void looks() {
        TurtleWorld world = new TurtleWorld(3);
        for (int what = -2; what < 20; what++) {
            int due = what < 0 || what > 13 ? -1 : what == 12 ? 3 : 0;
            Check.due("look(" + what + ") at first", world.look(what), due);
        }
        Check.due("look(the least)", world.look(Integer.MIN_VALUE), -1);
        Check.due("look(the greatest)", world.look(Integer.MAX_VALUE), -1);
        Check.define(world, "to f pu end to g :x end");
        Check.line(world, "make \"a list 1 2 tell 6 catch \"error [zz] type \"abc make \"b random 5 f show (sum 1 heading)");
        world.run(8);
        Check.tape(world, "pu");
        int[] due = {1, 0, 8, 2, 0, 3, 1, 6, 2, 2, 3, 2, nextSeed(3), 1};
        for (int what = 0; what < due.length; what++) {
            Check.due("look(" + what + ")", world.look(what), due[what]);
        }
        world.run(1);
        Check.due("WAITING: show ( sum", world.look(4), 3);
        Check.due("LEVELS", world.look(3), 1);
        world.run(9);
        Check.due("all run", world.look(0), 2);
        Check.due("MADE stays", world.look(5), 3);
        Check.due("what error would give stays", world.look(6), 1);
        world.end(0);
        Check.line(world, "pu");
        Check.due("of the next LINE: MADE", world.look(5), 0);
        Check.due("of the next LINE: what error would give", world.look(6), 0);
        Check.due("of the next LINE: INSTRUCTIONS", world.look(2), 0);
    }

    private static int nextSeed(int seed) {
        int s = seed;
        s ^= s << 13;
        s ^= s >>> 17;
        s ^= s << 5;
        return s;
    }

    private static void callAnswers() {
        TurtleWorld world = Check.world("to f :a :b local \"c run [g] end to g local \"a repeat 2 [h 1] end to h :x pu end");
        Check.due("no CALL", world.call(0, 0), -1);
        Check.line(world, "f 5 6");
        Check.due("none is open", world.call(0, 1), -1);
        world.run(1);
        calls(world, new int[][] {{0, 2, 2}});
        world.run(1);
        calls(world, new int[][] {{0, 3, 2}});
        world.run(4);
        calls(world, new int[][] {{1, 1, 0}, {0, 3, 2}});
        world.run(1);
        calls(world, new int[][] {{2, 1, 1}, {1, 1, 0}, {0, 3, 2}});
        world.run(1);
        calls(world, new int[][] {{1, 1, 0}, {0, 3, 2}});
        world.run(9);
        calls(world, new int[][] {});
        Check.due("all run", world.look(0), 2);
    }

    private static void calls(TurtleWorld world, int[][] due) {
        Check.due("open CALLS", world.look(13), due.length);
        for (int k = 0; k < due.length; k++) {
            for (int what = 0; what < 3; what++) {
                Check.due("call(" + k + ", " + what + ") of " + due.length, world.call(k, what), due[k][what]);
            }
            Check.due("call(" + k + ", 3)", world.call(k, 3), -1);
            Check.due("call(" + k + ", -1)", world.call(k, -1), -1);
        }
        for (int k : new int[] {due.length, due.length + 1, -1, -2, Integer.MIN_VALUE, Integer.MAX_VALUE}) {
            Check.due("call(" + k + ", 0) of " + due.length, world.call(k, 0), -1);
        }
    }
}
