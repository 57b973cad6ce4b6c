/** The edges of part I, sentence by sentence, and of promises 1 to 6 and 18: texts, TOKENS, FAULTS, procedures. */
public final class TextEdgesTest {
    private static final String LETTERS_30 = "abcdefghijklmnopqrstuvwxyzABCD";
    static final String[] APPLIED = ("fd bk rt lt seth pu pd setpen home place clean tell heading xcor ycor pen who dot same "
            + "sum difference product quotient remainder minus lessp greaterp random and or not "
            + "equalp listp wordp numberp count emptyp first last butfirst butlast item fput lput sentence list memberp reverse word "
            + "make local thing namep define arity text run if ifelse repeat repcount while foreach ? map ask "
            + "stop output catch throw error print show type").split(" ");

    public static void main(String[] args) {
        seeds();
        roomOfTheTape();
        endOfTheTape();
        whatReadsEmptiesTheTape();
        bytes();
        blanksAndComments();
        signsByThemselves();
        dashes();
        numbersAndWords();
        numbersTooBig();
        wordsTooLong();
        brackets();
        tooDeep();
        tooManyTokens();
        theFirstFault();
        theLeastFaultOfOnePlace();
        outsideOfProcedures();
        noNames();
        names();
        inputs();
        withoutEnd();
        the41st();
        tellingAgain();
        bodies();
        noneCameByAFault();
        theLatestThatRead();
        procedureAnswers();
        Check.finish();
    }

    private static void seeds() {
        int[][] seeds = {{0, 1}, {1, 1}, {-1, -1}, {Integer.MIN_VALUE, Integer.MIN_VALUE}, {Integer.MAX_VALUE, Integer.MAX_VALUE}};
        for (int[] seed : seeds) {
            Check.due("the SEED of " + seed[0], new TurtleWorld(seed[0]).look(12), seed[1]);
        }
    }

    private static boolean feedBlanks(TurtleWorld world) {
        return world.feed(0x20202020, 0x20202020, 0x20202020, 0x20202020, 0x20202020);
    }

    private static void roomOfTheTape() {
        TurtleWorld world = new TurtleWorld(1);
        for (int i = 1; i <= 200; i++) {
            Check.due("feed " + i, feedBlanks(world), true);
            Check.due("bytes behind feed " + i, world.look(11), 20 * i);
        }
        Check.due("feed into a full tape", world.feed(-1, -1, -1, -1, -1), false);
        Check.due("it has changed nothing", world.look(11), 4000);
        Check.due("end(3999)", world.end(3999), true);
        Check.due("feed with room for 1", world.feed(-1, -1, -1, -1, -1), false);
        Check.due("end(3981)", world.end(3981), true);
        Check.due("feed with room for 19", world.feed(-1, -1, -1, -1, -1), false);
        Check.due("it has changed nothing", world.look(11), 3981);
        Check.due("all are BLANKS still", world.line(), 0);
        Check.due("feed into the empty tape", feedBlanks(world), true);
        // The highest byte of each int first, and none of them is taken for less than 0.
        TurtleWorld letters = new TurtleWorld(1);
        letters.feed(0x73686f77, 0x205b4142, 0x43444546, 0x4748494a, 0x4b4c4d5d);
        Check.due("show [ABCDEFGHIJKLM]", letters.line(), 2);
        letters.run(1);
        Check.due("the bytes in their order", Check.out(letters), "[ABCDEFGHIJKLM]\n");
        letters.feed(0x20202020, 0x20202080, 0x20202020, 0x20202020, 0x20202020);
        Check.due("a byte 128", letters.line(), -1);
        Check.due("its place", letters.fault(0), 7);
    }

    private static void endOfTheTape() {
        TurtleWorld world = new TurtleWorld(1);
        Check.due("end(0) of an empty tape", world.end(0), true);
        Check.due("end(1) of an empty tape", world.end(1), false);
        feedBlanks(world);
        Check.due("end(21) of 20", world.end(21), false);
        Check.due("end(-1)", world.end(-1), false);
        Check.due("end(the least)", world.end(Integer.MIN_VALUE), false);
        Check.due("end(the greatest)", world.end(Integer.MAX_VALUE), false);
        Check.due("they have changed nothing", world.look(11), 20);
        Check.due("end(20) of 20", world.end(20), true);
        Check.due("bytes", world.look(11), 20);
        Check.due("end(7)", world.end(7), true);
        Check.due("bytes", world.look(11), 7);
        Check.due("end(8) of 7", world.end(8), false);
        Check.due("end(0)", world.end(0), true);
        Check.due("bytes", world.look(11), 0);
        world.feed(0x70752070, 0x64207075, 0x20706420, 0x5d5d5d5d, 0x5d5d5d5d);
        Check.due("end(11)", world.end(11), true);
        Check.due("its first bytes alone", world.line(), 4);
        world.stop();
        // What was cut off is not read, also where a token would go on with it.
        world.feed(0x73686f77, 0x20313233, 0x34353637, 0x38393031, 0x32333435);
        Check.due("end(7)", world.end(7), true);
        Check.due("show 12", world.line(), 2);
        world.run(1);
        Check.due("OUT", Check.out(world), "12\n");
        world.feed(0x2d352020, 0x20202020, 0x20202020, 0x20202020, 0x20202020);
        Check.due("end(1)", world.end(1), true);
        Check.due("a - alone", world.line(), 1);
        Check.due("is no NUMBER", world.look(1), 4);
    }

    private static void whatReadsEmptiesTheTape() {
        TurtleWorld world = new TurtleWorld(1);
        Check.due("define", Check.define(world, "to p end"), 1);
        Check.due("the tape behind define()", world.look(11), 0);
        Check.due("define with a FAULT", Check.define(world, "to"), -8);
        Check.due("the tape behind its FAULT", world.look(11), 0);
        Check.due("line with a FAULT", Check.line(world, "]"), -4);
        Check.due("the tape behind its FAULT", world.look(11), 0);
        Check.due("line", Check.line(world, "pu pd"), 2);
        Check.due("the tape behind line()", world.look(11), 0);
        Check.tape(world, "to q end");
        Check.due("define within a LINE", world.define(), -20);
        Check.due("line within a LINE", world.line(), -20);
        Check.due("they read nothing", world.look(11), 8);
        Check.due("the LINE stands where it stood", world.look(2), 0);
        Check.due("and goes on", world.run(9), 2);
        Check.due("define behind the LINE", world.define(), 1);
        Check.due("procedures", world.look(9), 2);
    }

    private static void members(String text, int count) {
        TurtleWorld world = new TurtleWorld(1);
        Check.due("members of '" + text + "'", Check.line(world, text), count);
        Check.due("the kind in '" + text + "'", world.fault(1), -1);
        Check.due("the place in '" + text + "'", world.fault(0), -1);
    }

    private static void lineFault(String text, int kind, int place) {
        TurtleWorld world = new TurtleWorld(1);
        Check.fault(world, Check.line(world, text), text, kind, place);
        Check.due("no LINE behind '" + text + "'", world.look(0), 0);
    }

    private static void defineFault(String text, int kind, int place) {
        TurtleWorld world = new TurtleWorld(1);
        Check.fault(world, Check.define(world, text), text, kind, place);
        Check.due("procedures behind '" + text + "'", world.look(9), 0);
    }

    /** A byte is a BLANK, a LETTER, or the FAULT 1. */
    private static void bytes() {
        for (int b = 0; b < 256; b++) {
            String text = "a" + (char) b;
            if (b == 10 || b == 32 || b == ';') {
                members(text, 1);
            } else if (b == '[') {
                lineFault(text, 4, 2);
            } else if (b == ']') {
                lineFault(text, 4, 1);
            } else if (b < 32 || b > 126) {
                lineFault(text, 1, 1);
                lineFault("a ;" + (char) b, 1, 3);
                defineFault("to p" + (char) b + " end", 1, 4);
            } else {
                members(text, "()+-*/=<>".indexOf(b) >= 0 ? 2 : 1);
                members("" + (char) b, 1);
            }
        }
        Check.prints("show [!~ #$%&' .,_ @\\^`{|}]", "[!~ #$%&' .,_ @\\^`{|}]\n");
    }

    private static void blanksAndComments() {
        members("", 0);
        members(" \n \n", 0);
        members(";", 0);
        members("; pu pd", 0);
        members("pu;pd", 1);
        members("pu;pd\npd", 2);
        members(";pu\n;pd\npu", 1);
        members("pu;;[;]\n;", 1);
        members("pu\npd", 2);
        members("[a;]\nb]", 1);
        lineFault("[a;]", 4, 4);
        Check.prints("show [a;b c\nd \"e;f\n]", "[a d \"e]\n");
        Check.prints("show [1;2\n-3;4\n;5\n-6]", "[1 -3 -6]\n");
        Check.due("a comment in define()", Check.define(new TurtleWorld(1), "to;p\np;end\n;\nend;x"), 1);
    }

    private static void signsByThemselves() {
        Check.prints("show [a(b)c+d*e/f=g<h>i]", "[a ( b ) c + d * e / f = g < h > i]\n");
        Check.prints("show [1+2*3/4=5<6>7(8)9]", "[1 + 2 * 3 / 4 = 5 < 6 > 7 ( 8 ) 9]\n");
        Check.prints("show [<=>==((**]", "[< = > = = ( ( * *]\n");
        Check.prints("show [a[b]c[]\"[d]]", "[a [b] c [] \" [d]]\n");
    }

    private static void dashes() {
        members("-5", 1);
        members("-", 1);
        members("--", 2);
        members("- 5", 2);
        members("-a", 2);
        members("5-", 2);
        members("5-5", 3);
        members("5--5", 3);
        members("5---5", 4);
        members("a-5", 3);
        members("-5-5", 3);
        members("-5-", 2);
        members("pu -", 2);
        Check.prints("show [-5 -6\n-7(-8)(-9]", "[-5 -6 -7 ( -8 ) ( -9]\n");
        Check.prints("show [[-5]-5 (1)-5 a-5 5-5 \"-5 :-5 ?-5]", "[[-5] - 5 ( 1 ) - 5 a - 5 5 - 5 \" - 5 : - 5 ? - 5]\n");
        Check.prints("show [+-1*-2/-3=-4<-5>-6--7]", "[+ -1 * -2 / -3 = -4 < -5 > -6 - -7]\n");
        Check.prints("show [- 5 -a -[5] -(5)]", "[- 5 - a - [5] - ( 5 )]\n");
        Check.prints("show [-5a -5\" -5:x -0x]", "[-5a -5\" -5:x -0x]\n");
        lineFault("-\u0001", 1, 1);
    }

    private static void numbersAndWords() {
        Check.prints("show [0 -0 00 007 -007 1000000000 -1000000000 01000000000]", "[0 0 0 7 -7 1000000000 -1000000000 1000000000]\n");
        Check.prints("show map [5 -5 5a -5a a5 \"5 :5 . 0x10 1.5] [numberp ?]",
                "[true true false false false false false false false false]\n");
        Check.prints("show map [+ ( ) - [] \" : ? fd] [wordp ?]", "[true true true true false true true true true]\n");
    }

    private static void numbersTooBig() {
        members("1000000000", 1);
        members("-1000000000", 1);
        lineFault("1000000001", 2, 0);
        lineFault("-1000000001", 2, 0);
        lineFault("pu 2147483648", 2, 3);
        lineFault("pu 4294967296", 2, 3);
        lineFault("[pu -18446744073709551616]", 2, 4);
        lineFault("9".repeat(31), 2, 0);
        lineFault("9".repeat(4000), 2, 0);
        members("0".repeat(4000), 1);
        members("\"1000000001", 1);
        members("1000000001a", 1);
    }

    private static void wordsTooLong() {
        members(LETTERS_30, 1);
        members("[" + LETTERS_30 + "]", 1);
        lineFault(LETTERS_30 + "E", 3, 0);
        lineFault("pu [" + LETTERS_30 + "E]", 3, 4);
        lineFault("\"" + LETTERS_30, 3, 0);
        lineFault("-" + "1".repeat(29) + "a", 3, 0);
        members("-" + "1".repeat(28) + "a", 1);
        members(LETTERS_30 + "+" + LETTERS_30, 3);
        members(LETTERS_30 + ";" + LETTERS_30, 1);
        lineFault("a".repeat(4000), 3, 0);
        Check.prints("print \"" + LETTERS_30.substring(1), LETTERS_30.substring(1) + "\n");
    }

    private static void brackets() {
        lineFault("]", 4, 0);
        lineFault("[a]]", 4, 3);
        lineFault("[", 4, 1);
        lineFault("[ ", 4, 2);
        lineFault("[[a] ; ]", 4, 8);
        lineFault("[" + " ".repeat(3999), 4, 4000);
        members("[]", 1);
        members("[[][[]]]", 1);
        members("(", 1);
        lineFault("(]", 4, 1);
    }

    private static void tooDeep() {
        members("[".repeat(20) + "]".repeat(20), 1);
        members(("[".repeat(20) + "]".repeat(20)).repeat(2), 2);
        members("[" + "[]".repeat(30) + "]", 1);
        lineFault("[".repeat(21), 5, 20);
        lineFault("[".repeat(20) + "]".repeat(20) + "[".repeat(21), 5, 60);
        lineFault("[".repeat(20) + "][[", 5, 22);
        Check.prints("show " + "[".repeat(20) + "]".repeat(20), "[".repeat(20) + "]".repeat(20) + "\n");
        defineFault("to p " + "[".repeat(21), 5, 25);
        Check.due("20 [ in a BODY", Check.define(new TurtleWorld(1), "to p " + "[".repeat(20) + "]".repeat(20) + "end"), 1);
    }

    private static void tooManyTokens() {
        members("a ".repeat(600), 600);
        members("[]".repeat(300), 300);
        members("[" + "1 ".repeat(598) + "]", 1);
        members("+".repeat(600) + ";+", 600);
        lineFault("a ".repeat(601), 6, 1200);
        lineFault("+".repeat(601), 6, 600);
        lineFault("[" + "1 ".repeat(599) + "]", 6, 1199);
        lineFault("[]".repeat(300) + "[]", 6, 600);
        lineFault("1 ".repeat(600) + "5", 6, 1200);
        String tokens597 = "to p " + "1 ".repeat(597) + "end";
        Check.due("600 TOKENS", Check.define(new TurtleWorld(1), tokens597), 1);
        defineFault("to p " + "1 ".repeat(598) + "end", 6, 5 + 2 * 598);
        TurtleWorld world = new TurtleWorld(1);
        Check.due("200 procedures of 600 TOKENS", Check.define(world, "to p end ".repeat(200)), 200);
        Check.due("which are one", world.look(9), 1);
        defineFault("to p end ".repeat(200) + "to", 6, 1800);
    }

    private static void theFirstFault() {
        lineFault("1000000001 \u0001", 2, 0);
        lineFault("\u0001 1000000001", 1, 0);
        lineFault("] 1000000001", 4, 0);
        lineFault(LETTERS_30 + "E ]", 3, 0);
        lineFault("[ \u0001", 1, 2);
        lineFault("pu\u0001]", 1, 2);
        lineFault("1000000001" + "\u0001", 2, 0);
        lineFault("[".repeat(21) + "\u0001", 5, 20);
        defineFault("fd \u0001", 7, 0);
        defineFault("to p end fd ]", 7, 9);
        defineFault("to fd ]", 8, 3);
        defineFault("to p :a :a ]", 9, 8);
        defineFault("to p ] fd", 4, 5);
        defineFault("to p end ] fd", 4, 9);
    }

    private static void theLeastFaultOfOnePlace() {
        String full = "1 ".repeat(600);
        lineFault(full + "1000000001", 2, 1200);
        lineFault(full + LETTERS_30 + "E", 3, 1200);
        lineFault(full + "]", 4, 1200);
        lineFault("1 ".repeat(580) + "[".repeat(21), 5, 1180);
        lineFault("1 ".repeat(580) + "[".repeat(20) + "1", 6, 1180);
        defineFault("1000000001", 2, 0);
        defineFault(LETTERS_30 + "E", 3, 0);
        defineFault("]", 4, 0);
        defineFault("to 1000000001", 2, 3);
        defineFault("to " + LETTERS_30 + "E", 3, 3);
        defineFault("to ]", 4, 3);
        defineFault("to p :" + LETTERS_30, 3, 5);
        // At the tape's length: a [ without ], ahead of a procedure without end.
        defineFault("to p [", 4, 6);
        defineFault("to p :a [[] ", 4, 12);
        // The 601st token is asked for 6 ahead of 7, 8, 9 and 11.
        String tokens594 = "to p end ".repeat(198);
        defineFault(tokens594 + "to p 1 1 1 end fd", 6, 9 * 198 + 15);
        defineFault(tokens594 + "to p 1 1 1 end [", 6, 9 * 198 + 15);
        defineFault(tokens594 + "to p 1 1 end to fd", 6, 9 * 198 + 16);
        defineFault(tokens594 + "to p 1 1 end to [", 6, 9 * 198 + 16);
        defineFault(tokens594 + "to p 1 end to p :", 6, 9 * 198 + 16);
        String forty = manyProcedures(40);
        defineFault(forty + "to p0 end ".repeat(158) + "to p0 1 1 end to q", 6, forty.length() + 10 * 158 + 17);
    }

    private static String manyProcedures(int count) {
        StringBuilder text = new StringBuilder();
        for (int i = 0; i < count; i++) {
            text.append("to p").append(i).append(" end ");
        }
        return text.toString();
    }

    private static void outsideOfProcedures() {
        for (String token : new String[] {"end", "p", "5", "-5", "[", "[to p end]", "(", ")", "-", "=", "\"to", ":to", "TO", "To", "?", "fd"}) {
            defineFault(token, 7, 0);
            defineFault("to p end " + token, 7, 9);
            defineFault(" \n;to p end\n" + token, 7, 12);
        }
        defineFault("to p end end", 7, 9);
    }

    private static void noNames() {
        for (String word : APPLIED) {
            defineFault("to " + word + " end", 8, 3);
        }
        for (String token : new String[] {"to", "end", "(", ")", "+", "-", "*", "/", "=", "<", ">", "\"", "\"p", ":", ":p", "5", "-5", "[", "[p]"}) {
            defineFault("to " + token + " end", 8, 3);
        }
        defineFault("to", 8, 2);
        defineFault("to \n ", 8, 5);
        defineFault("to;p end", 8, 8);
        defineFault("to p end to", 8, 11);
    }

    private static void names() {
        for (String word : APPLIED) {
            named(word.equals("?") ? "??" : word + "1");
            named(word.equals("?") ? "x?" : word.toUpperCase());
            named("x" + word);
        }
        for (String word : new String[] {"true", "false", "To", "END", "too", "e", "-5a", "5a", "p\"", "p:", "!", LETTERS_30}) {
            named(word);
        }
    }

    private static void named(String word) {
        TurtleWorld world = new TurtleWorld(1);
        Check.due("define " + word, Check.define(world, "to " + word + " pu end"), 1);
        for (int i = 0; i < word.length(); i++) {
            Check.due("LETTER " + i + " of " + word, world.procedure(0, 2 + i), word.charAt(i));
        }
        Check.due("behind the LETTERS of " + word, world.procedure(0, 2 + word.length()), -1);
        Check.due("a LINE with it", Check.line(world, word), 1);
        Check.due("its CALL and its pu", world.run(9), 2);
    }

    private static void inputs() {
        defineFault("to p :a :a end", 9, 8);
        defineFault("to p :b :a :c :a end", 9, 14);
        defineFault("to p : end", 9, 5);
        defineFault("to p :a :", 9, 8);
        defineFault("to p :a :b :c :d :e :f end", 9, 20);
        defineFault("to p :a :b :c :d :e :a end", 9, 20);
        defineFault("to p :a :b :c :d :e : end", 9, 20);
        TurtleWorld world = new TurtleWorld(1);
        Check.due("INPUTS", Check.define(world, "to p end to q :a end to r :a :A :b :ab ::a end to s :a pu :a : end to t [:a] end"), 5);
        int[] due = {0, 1, 5, 1, 0};
        int[] members = {0, 0, 0, 3, 1};
        for (int k = 0; k < due.length; k++) {
            Check.due("INPUTS of procedure " + k, world.procedure(k, 0), due[k]);
            Check.due("members of the BODY of procedure " + k, world.procedure(k, 1), members[k]);
        }
        Check.prints("to p :a :A :b :ab ::a print (sentence (list :a :A) (list :b :ab)) print ::a end", "p 1 2 3 4 5", "1 2 3 4\n5\n");
    }

    private static void withoutEnd() {
        defineFault("to p", 10, 4);
        defineFault("to p  ", 10, 6);
        defineFault("to p :a", 10, 7);
        defineFault("to p pu", 10, 7);
        defineFault("to p [end]", 10, 10);
        defineFault("to p ; end", 10, 10);
        defineFault("to p \"end :end END to q", 10, 23);
        defineFault("to p end to q [a]", 10, 17);
        defineFault("to p" + " ".repeat(3996), 10, 4000);
    }

    private static void the41st() {
        String forty = manyProcedures(40);
        TurtleWorld world = Check.world(forty);
        Check.due("forty", world.look(9), 40);
        Check.fault(world, Check.define(world, "to q end"), "the 41st", 11, 3);
        Check.fault(world, Check.define(world, "to p0 pu end to q end"), "the 41st behind another", 11, 16);
        Check.due("none came", world.procedure(0, 1), 0);
        Check.due("all told again", Check.define(world, manyProcedures(40)), 40);
        Check.due("forty still", world.look(9), 40);
        defineFault(forty + "to q end", 11, forty.length() + 3);
        defineFault(forty + "to q ]", 11, forty.length() + 3);
        TurtleWorld other = Check.world(manyProcedures(39));
        Check.due("one new one, told twice", Check.define(other, "to q end to q pu end"), 2);
        Check.due("is the fortieth", other.look(9), 40);
        // What a FAULT has left behind is no procedure.
        TurtleWorld again = Check.world(manyProcedures(38));
        Check.due("two with a FAULT", Check.define(again, "to z end to z end to q end to"), -8);
        Check.fault(again, Check.define(again, "to x end to y end to q end"), "three new ones", 11, 21);
        Check.due("none came", again.look(9), 38);
        TurtleWorld third = Check.world(manyProcedures(39));
        Check.fault(third, Check.define(third, "to q end to r end"), "two new ones", 11, 12);
        Check.due("of which none came", third.look(9), 39);
    }

    private static void tellingAgain() {
        TurtleWorld world = Check.world("to p :a pu end to q end");
        Check.due("one told again, one new, one told twice", Check.define(world, "to q :x :y pd pd end to r end to p end to r pu pu pu end"), 4);
        Check.due("procedures", world.look(9), 3);
        int[][] due = {{0, 0, 'p'}, {2, 2, 'q'}, {0, 3, 'r'}};
        for (int k = 0; k < due.length; k++) {
            for (int what = 0; what < 3; what++) {
                Check.due("procedure(" + k + ", " + what + ")", world.procedure(k, what), due[k][what]);
            }
        }
        Check.due("p and P are two", Check.define(world, "to P end"), 1);
        Check.due("procedures", world.look(9), 4);
    }

    private static void bodies() {
        Check.prints("to p show [end [end] to] end", "show text \"p", "[show [end [end] to]]\n");
        Check.prints("to p to q \"end :end ( end", "show text \"p", "[to q \"end :end (]\n");
        Check.prints("to p\nend to q ; end\n print 1 end", "show text \"p q", "[]\n1\n");
        // A BODY that is read may be of any SIZE: the limits are those of what a WORD makes.
        String words = LETTERS_30 + " ";
        Check.prints("to p " + words.repeat(100) + "end", "print count text \"p", "100\n");
        Check.due("define of nothing", Check.define(new TurtleWorld(1), ""), 0);
        Check.due("define of BLANKS", Check.define(new TurtleWorld(1), " \n;to p end"), 0);
    }

    private static void noneCameByAFault() {
        String[] faults = {"\u0001", "to q 1000000001", "to q " + LETTERS_30 + "E", "]", "to q [", "to q " + "[".repeat(21), "x", "to", "to q :", "to q"};
        int[] kinds = {1, 2, 3, 4, 4, 5, 7, 8, 9, 10};
        for (int i = 0; i < faults.length; i++) {
            TurtleWorld world = Check.world("to p :a pu pd end");
            Check.due("define", Check.define(world, "to p end to r end " + faults[i]), -kinds[i]);
            Check.due("procedures", world.look(9), 1);
            Check.due("INPUTS of p", world.procedure(0, 0), 1);
            Check.due("BODY of p", world.procedure(0, 1), 2);
        }
    }

    private static void theLatestThatRead() {
        TurtleWorld world = new TurtleWorld(1);
        Check.due("fault(0) at first", world.fault(0), -1);
        Check.due("fault(1) at first", world.fault(1), -1);
        Check.fault(world, Check.line(world, "pu ]"), "pu ]", 4, 3);
        Check.due("fault(2)", world.fault(2), -1);
        Check.due("fault(-1)", world.fault(-1), -1);
        Check.due("feed and end leave it", world.fault(0), 3);
        Check.fault(world, Check.define(world, "to p :"), "to p :", 9, 5);
        Check.due("a line without one", Check.line(world, "pu"), 1);
        Check.due("fault(0)", world.fault(0), -1);
        Check.due("fault(1)", world.fault(1), -1);
        world.run(1);
        Check.fault(world, Check.line(world, "]"), "]", 4, 0);
        Check.due("go leaves it", world.go(0), true);
        Check.due("fault(1)", world.fault(1), 4);
        Check.tape(world, "[");
        Check.due("what reads nothing", world.line(), -20);
        Check.due("leaves it, too", world.fault(1), 4);
        Check.due("its place", world.fault(0), 0);
        Check.due("and so does that", world.define(), -20);
        Check.due("fault(1)", world.fault(1), 4);
        world.stop();
        world.end(0);
        Check.due("a define() without one", world.define(), 0);
        Check.due("fault(1)", world.fault(1), -1);
    }

    private static void procedureAnswers() {
        TurtleWorld world = Check.world("to abc :x :y pu [pd pd] end to q end");
        int[] due = {2, 2, 'a', 'b', 'c', -1, -1};
        for (int what = 0; what < due.length; what++) {
            Check.due("procedure(0, " + what + ")", world.procedure(0, what), due[what]);
        }
        Check.due("procedure(1, 2)", world.procedure(1, 2), 'q');
        int[][] none = {{2, 0}, {-1, 0}, {40, 1}, {0, -1}, {0, Integer.MIN_VALUE}, {0, Integer.MAX_VALUE}, {Integer.MIN_VALUE, 2}, {Integer.MAX_VALUE, 0}};
        for (int[] k : none) {
            Check.due("procedure(" + k[0] + ", " + k[1] + ")", world.procedure(k[0], k[1]), -1);
        }
    }
}
