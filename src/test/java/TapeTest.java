/** Promises 1 to 6 and 18: a new object, feed, end, define, line, fault, procedure. */
public final class TapeTest {
    private static final String LETTERS_30 = "abcdefghijklmnopqrstuvwxyz1234";

    public static void main(String[] args) {
        newObject();
        feedAndEnd();
        tokens();
        lineFaults();
        defineFaults();
        defines();
        whileUnderWay();
        Check.finish();
    }

    private static void newObject() {
        TurtleWorld world = new TurtleWorld(5);
        int[] due = {0, 0, 0, 0, 0, 0, 0, 0, 0, 0, 0, 0, 5, 0};
        for (int what = 0; what < due.length; what++) {
            Check.due("look(" + what + ") of a new object", world.look(what), due[what]);
        }
        Check.due("look(-1)", world.look(-1), -1);
        Check.due("look(14)", world.look(14), -1);
        Check.due("the SEED for 0", new TurtleWorld(0).look(12), 1);
        Check.due("the SEED for -7", new TurtleWorld(-7).look(12), -7);
        Check.due("fault(0)", world.fault(0), -1);
        Check.due("fault(1)", world.fault(1), -1);
        Check.due("run", world.run(5), 0);
        Check.due("go", world.go(0), false);
        Check.due("stop", world.stop(), false);
        Check.due("out", world.out(0), -1);
        Check.due("name", world.name(0, 0), -1);
        Check.due("value", world.value(0, 0), -1);
        Check.due("procedure", world.procedure(0, 0), -1);
        Check.due("call", world.call(0, 0), -1);
        Check.due("NONE", TurtleWorld.NONE, -1);
    }

    private static void feedAndEnd() {
        TurtleWorld world = new TurtleWorld(1);
        for (int i = 0; i < 200; i++) {
            Check.due("feed " + i, world.feed(0x20202020, 0x20202020, 0x20202020, 0x20202020, 0x20202020), true);
        }
        Check.due("feed without room", world.feed(0, 0, 0, 0, 0), false);
        Check.due("bytes", world.look(11), 4000);
        Check.due("end(4001)", world.end(4001), false);
        Check.due("end(-1)", world.end(-1), false);
        Check.due("end(3981)", world.end(3981), true);
        Check.due("feed with room for 19", world.feed(0, 0, 0, 0, 0), false);
        Check.due("end(3980)", world.end(3980), true);
        Check.due("feed with room for 20", world.feed(0, 0, 0, 0, 0), true);
        Check.due("the bytes 0", world.line(), -1);
        Check.due("their place", world.fault(0), 3980);
        Check.due("the tape is empty", world.look(11), 0);
        Check.due("end(0)", world.end(0), true);
        Check.due("end(1)", world.end(1), false);
        world.feed(0x7072696e, 0x74202241, 0x42434445, 0x46474849, 0x4a4b4c4d);
        Check.due("members", world.line(), 2);
        world.run(1);
        Check.due("highest byte first", Check.out(world), "ABCDEFGHIJKLM\n");
        Check.due("an empty line", world.line(), 0);
        Check.due("that has been run", world.look(0), 2);
    }

    private static void members(String text, int count) {
        TurtleWorld world = new TurtleWorld(1);
        Check.due("members of '" + text + "'", Check.line(world, text), count);
        Check.due("fault(1) of '" + text + "'", world.fault(1), -1);
    }

    private static void tokens() {
        members("a b;c d\ne", 3);
        members("[a [b c]] (1) + 2", 6);
        members("3-5", 3);
        members("3 -5", 2);
        members("3- 5", 3);
        members("2--3", 3);
        members("-5-3", 3);
        members("(-5)-5", 5);
        members("[-5]-5", 3);
        members("\"-5", 3);
        members("a*b/c=d<e>f", 11);
        members("-", 1);
        members("00000000000000000000000000000000000000001", 1);
        members("1000000000 -1000000000", 2);
        members(LETTERS_30, 1);
        members("", 0);
        members(" \n ;", 0);
        Check.prints("show [a;b\n-0 007 -5a 5a 3-5 (-1)+-2 \"x :y ?]", "[a 0 7 -5a 5a 3 - 5 ( -1 ) + -2 \"x :y ?]\n");
        Check.prints("show [=-3 <-4 -\n5]", "[= -3 < -4 - 5]\n");
    }

    private static void lineFault(String text, int kind, int place) {
        TurtleWorld world = new TurtleWorld(1);
        faultOf(world, Check.line(world, text), text, kind, place);
        Check.due("look(0) behind '" + text + "'", world.look(0), 0);
    }

    private static void faultOf(TurtleWorld world, int answer, String text, int kind, int place) {
        Check.due("reading '" + text + "'", answer, -kind);
        Check.due("the place of '" + text + "'", world.fault(0), place);
        Check.due("the kind of '" + text + "'", world.fault(1), kind);
        Check.due("fault(2)", world.fault(2), -1);
        Check.due("fault(-1)", world.fault(-1), -1);
        Check.due("the tape behind '" + text + "'", world.look(11), 0);
    }

    private static String times(String text, int n) {
        StringBuilder all = new StringBuilder();
        for (int i = 0; i < n; i++) {
            all.append(text);
        }
        return all.toString();
    }

    private static void lineFaults() {
        lineFault("fd 1\t", 1, 4);
        lineFault("a\u007f", 1, 1);
        lineFault("; x\u00e9\nb", 1, 3);
        lineFault("a 1000000001 ]", 2, 2);
        lineFault("a -1000000001", 2, 2);
        lineFault("99999999999999999999999999999999999999999", 2, 0);
        lineFault(LETTERS_30 + "x\u0001", 3, 0);
        lineFault("] [", 4, 0);
        lineFault("[ a [ b ]", 4, 9);
        lineFault("[ a ; ]", 4, 7);
        lineFault(times("[", 21) + times("]", 21), 5, 20);
        members(times("[", 20) + times("]", 20), 1);
        members(times("a ", 600), 600);
        lineFault(times("a ", 601), 6, 1200);
        lineFault(times("a ", 600) + "1000000001", 2, 1200);
        lineFault(times("a ", 600) + LETTERS_30 + "x", 3, 1200);
        lineFault(times("a ", 600) + "]", 4, 1200);
        lineFault(times("[]", 300) + "[", 6, 600);
        TurtleWorld world = Check.ran("", "fd 1");
        Check.due("a FAULT behind a line", Check.line(world, "]"), -4);
        Check.due("the line ahead stays", world.look(0), 2);
        Check.due("its INSTRUCTIONS, too", world.look(2), 1);
        Check.due("go in it", world.go(0), true);
    }

    private static void defineFault(String text, int kind, int place) {
        TurtleWorld world = new TurtleWorld(1);
        faultOf(world, Check.define(world, text), text, kind, place);
        Check.due("procedures behind '" + text + "'", world.look(9), 0);
    }

    private static void defineFaults() {
        defineFault("fd", 7, 0);
        defineFault("5", 7, 0);
        defineFault("[to]", 7, 0);
        defineFault("]", 4, 0);
        defineFault("to p end to q end end", 7, 18);
        defineFault("to", 8, 2);
        defineFault("to 5 end", 8, 3);
        defineFault("to [p] end", 8, 3);
        defineFault("to \"p end", 8, 3);
        defineFault("to :p end", 8, 3);
        defineFault("to to end", 8, 3);
        defineFault("to end end", 8, 3);
        defineFault("to ? end", 8, 3);
        defineFault("to ( end", 8, 3);
        defineFault("to - end", 8, 3);
        defineFault("to error end", 8, 3);
        defineFault("to p :a :b :a end", 9, 11);
        defineFault("to p :a : end", 9, 8);
        defineFault("to p :a :b :c :d :e :f end", 9, 20);
        defineFault("to p :a fd [end]", 10, 16);
        defineFault("to p", 10, 4);
        defineFault("to p [end", 4, 9);
        defineFault("to p fd 1000000001", 2, 8);
        defineFault("to p end \u0001", 1, 9);
        StringBuilder forty = new StringBuilder();
        for (int i = 0; i < 40; i++) {
            forty.append("to p").append(i).append(" end ");
        }
        defineFault(forty + "to q end", 11, forty.length() + 3);
        TurtleWorld world = Check.world(forty.toString());
        Check.due("forty procedures", world.look(9), 40);
        Check.due("one told again", Check.define(world, "to p7 fd 1 end"), 1);
        faultOf(world, Check.define(world, "to p7 fd 2 end to q end"), "the 41st", 11, 18);
        Check.due("none came", world.procedure(7, 1), 2);
    }

    private static void defines() {
        TurtleWorld world = new TurtleWorld(1);
        Check.due("define of nothing", Check.define(world, " ; nothing"), 0);
        Check.due("define", Check.define(world, "to p :x\n:y fd :x [end 5] end to true fd 1 end to p :z end"), 3);
        Check.due("fault(0)", world.fault(0), -1);
        Check.due("two procedures", world.look(9), 2);
        Check.due("INPUTS of p", world.procedure(0, 0), 1);
        Check.due("BODY of p", world.procedure(0, 1), 0);
        Check.due("NAME of p", world.procedure(0, 2), 'p');
        Check.due("behind it", world.procedure(0, 3), -1);
        Check.due("INPUTS of true", world.procedure(1, 0), 0);
        Check.due("BODY of true", world.procedure(1, 1), 2);
        Check.due("NAME of true", world.procedure(1, 5), 'e');
        Check.due("procedure(2, 0)", world.procedure(2, 0), -1);
        Check.due("procedure(-1, 0)", world.procedure(-1, 0), -1);
        Check.due("procedure(0, -1)", world.procedure(0, -1), -1);
        Check.due("a BODY with a LIST", Check.define(world, "to q :a fd :a [end 5] x end"), 1);
        Check.due("its members", world.procedure(2, 1), 4);
        Check.prints("to p :5 print :5 end to -5a print 1 end", "p 3 -5a", "3\n1\n");
    }

    private static void whileUnderWay() {
        TurtleWorld world = Check.world("");
        Check.line(world, "fd 1 fd 2");
        Check.tape(world, "to p end");
        Check.due("define in a line", world.define(), -20);
        Check.due("line in a line", world.line(), -20);
        Check.due("nothing is read", world.look(11), 8);
        Check.due("no fault", world.fault(1), -1);
        Check.due("stop", world.stop(), true);
        Check.due("define behind it", world.define(), 1);
    }
}
