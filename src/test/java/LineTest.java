/** Promises 5, 7 to 10, 15, 17 and 19: how lines are run, gone back in, stopped and looked at. */
public final class LineTest {
    public static void main(String[] args) {
        stands();
        strengths();
        errors();
        calls();
        goBack();
        goBackEverything();
        stops();
        long20000();
        outKeepsTheLatest();
        manyLines();
        manyTimesBack();
        Check.finish();
    }

    /** At each place from 0 on: LEVELS, WAITING, open CALLS. */
    private static void standsAt(TurtleWorld world, int[][] places) {
        for (int n = 0; n < places.length; n++) {
            Check.due("look(0) at " + n, world.look(0), 1);
            Check.due("look(2) at " + n, world.look(2), n);
            Check.due("LEVELS at " + n, world.look(3), places[n][0]);
            Check.due("WAITING at " + n, world.look(4), places[n][1]);
            Check.due("CALLS at " + n, world.look(13), places[n][2]);
            Check.due("run(1) at " + n, world.run(1), 1);
        }
        Check.due("look(0) at the end", world.look(0), 2);
        Check.due("look(2) at the end", world.look(2), places.length);
    }

    private static void stands() {
        TurtleWorld world = Check.world("to add :a :b output :a + :b end");
        Check.line(world, "print (1 + add 2 - 3 * 4 5) repeat 2 [fd 1] foreach [1 2] [pu]");
        int[][] places = {
            {1, 5, 0}, // at 3 * 4: print ( + add - wait
            {1, 4, 0}, // at 2 - 12
            {1, 3, 0}, // at add -10 5
            {2, 4, 1}, // at :a + :b, output waits, too
            {2, 3, 1}, // at output
            {1, 2, 0}, // at 1 + -5
            {1, 0, 0}, // at print
            {1, 0, 0}, // at repeat
            {2, 0, 0}, // at fd
            {2, 0, 0}, // between two turns the LEVEL is there
            {2, 0, 0}, // at fd again
            {1, 0, 0}, // the repeat has been left
            {2, 0, 0}, {2, 0, 0}, {2, 0, 0}};
        standsAt(world, places);
        Check.due("go(0)", world.go(0), true);
        standsAt(world, places);
        Check.due("go(13)", world.go(13), true);
        Check.due("go(14) behind go(13)", world.go(14), false);
        Check.due("run(0)", world.run(0), 0);
        Check.due("run(-1)", world.run(-1), 0);
        Check.due("the last turn and its pu", world.run(5), 2);
        Check.due("run at the end", world.run(5), 0);
        Check.due("OUT", Check.out(world), "-4\n");
        Check.line(world, "make \"n 2 while [:n > 0] [make \"n :n - 1] print map [1 2 3] [? * ?]");
        Check.due("a while and a map", world.run(Check.ALL), 1 + 1 + 3 + 2 * 2 + 2 + 1 + 3 * 3 + 2 + 1);
        Check.due("OUT", Check.out(world), "-4\n1 4 9\n");
    }

    private static void strengths() {
        Check.prints("print 2 + 3 * 4 - 1", "13\n");
        Check.prints("print 10 - 3 - 2", "5\n");
        Check.prints("print 100 / 10 / 2 * 3", "15\n");
        Check.prints("print 1 + 2 = 4 - 1", "true\n");
        Check.prints("print 3 = 3 = \"true", "true\n");
        Check.prints("print - 2 * 3", "-6\n");
        Check.prints("print -2--3", "1\n");
        Check.prints("print 2 * - 3 + 1", "-5\n");
        Check.prints("print (2 + 3) * 4", "20\n");
        Check.prints("print sum 1 2 * 3 + 1", "8\n");
        Check.prints("print 2 * sum 1 2 + 3", "12\n");
        Check.prints("print count [1 2] print (count [1 2]) + 3", "2\n5\n");
        Check.prints("(print 5) ((pu))", "5\n");
        Check.prints("print \"007 print \"a print 5 = \"5", "7\na\ntrue\n");
    }

    private static void errors() {
        Check.fails("zz", 1, 0);
        Check.fails("fd 1 to", 1, 1);
        Check.fails("end", 1, 0);
        Check.fails("true", 1, 0);
        Check.fails("?", 1, 1);
        Check.fails("print :", 2, 0);
        Check.fails("print :a", 2, 0);
        Check.fails("print \"", 3, 0);
        Check.fails("print \"1000000001", 9, 0);
        Check.fails("fd", 4, 0);
        Check.fails("fd pu", 4, 1);
        Check.fails("pu + 3", 4, 1);
        Check.fails("fd - pu", 4, 1);
        Check.fails("fd 3 * pu + 1", 4, 1);
        Check.fails("( )", 4, 0);
        Check.fails("(pu", 4, 1);
        Check.fails("(pu pd)", 4, 1);
        Check.fails("pu )", 4, 1);
        Check.fails("fd )", 4, 0);
        Check.fails("fd * 3", 4, 0);
        Check.fails("5", 5, 0);
        Check.fails("fd 1 [a]", 5, 1);
        Check.fails("pu -3", 5, 1);
        Check.fails("1 + 2", 5, 1);
        Check.fails("to p 5 end", "p", 5, 1);
        Check.fails("run [1 2]", 5, 1);
        Check.fails("repeat 2 [1]", 5, 1);
        Check.fails("if \"true [1]", 5, 1);
        Check.fails("fd [1] + 3", 3, 1);
        Check.fails("to p end", "fd p", 4, 1);
        Check.prints("catch \"error [zz] print error print error", "1\n0\n");
        Check.prints("catch \"error [repeat 3 [catch \"t [fd (1 + pu)]]] print error", "4\n");
    }

    private static void calls() {
        TurtleWorld world = Check.world("to p :a :b local \"c q :a end to q :x make \"c 1 make \"g :b end");
        Check.line(world, "p 1 2 print :g");
        world.run(3);
        Check.due("CALLS", world.look(13), 2);
        Check.due("the newest", world.call(0, 0), 1);
        Check.due("its LOCAL NAMES", world.call(0, 1), 1);
        Check.due("with a VALUE", world.call(0, 2), 1);
        Check.due("the one ahead", world.call(1, 0), 0);
        Check.due("its LOCAL NAMES", world.call(1, 1), 3);
        Check.due("with a VALUE", world.call(1, 2), 2);
        world.run(1);
        Check.due("with a VALUE behind make", world.call(1, 2), 3);
        Check.due("call(2, 0)", world.call(2, 0), -1);
        Check.due("call(-1, 0)", world.call(-1, 0), -1);
        Check.due("call(0, 3)", world.call(0, 3), -1);
        Check.due("call(0, -1)", world.call(0, -1), -1);
        world.run(Check.ALL);
        Check.due("call(0, 0) at the end", world.call(0, 0), -1);
        Check.due("one GLOBAL NAME", world.look(8), 1);
        Check.due("its VALUE", Check.value(world, 0), "2");
        Check.due("OUT", Check.out(world), "2\n");
        // What was met keeps its INPUTS and its BODY; what is open, too.
        Check.prints("to p :a print :a end", "p run [define \"p [[] [print 0]] 5] p", "5\n0\n");
        Check.prints("to p define \"p [[] [print 2]] print 1 end", "p p", "1\n2\n");
        Check.prints("to f :n if :n = 0 [output 1] output :n * f :n - 1 end", "print f 9", "362880\n");
        Check.prints("to p stop print 1 end to q repeat 3 [print repcount if repcount = 2 [stop]] end", "p q print 3", "1\n2\n3\n");
    }

    private static void goBack() {
        TurtleWorld world = Check.world("");
        Check.line(world, "fd 1 fd 2");
        Check.due("go(1) with 0 done", world.go(1), false);
        world.run(Check.ALL);
        Check.due("ended", world.look(0), 2);
        Check.due("go(-1)", world.go(-1), false);
        Check.due("go(3)", world.go(3), false);
        Check.due("go(2)", world.go(2), true);
        Check.due("ended again", world.look(0), 2);
        Check.due("go(1)", world.go(1), true);
        Check.due("under way", world.look(0), 1);
        Check.due("define in it", Check.define(world, "to p end"), -20);
        Check.due("its run", world.run(9), 1);
        Check.due("py", world.place(0, 1, 0), 6);
        Check.due("the tape stays", world.look(11), 8);
        world.end(0);
        Check.due("define of nothing", world.define(), 0);
        Check.due("go behind it", world.go(2), true);
        Check.due("a FAULT", Check.define(world, "to"), -8);
        Check.due("go behind it", world.go(2), true);
        Check.due("define", Check.define(world, "to p end"), 1);
        Check.due("go behind that", world.go(0), false);
        Check.due("an ERROR", Check.line(world, "fd 1 fd \"a"), 4);
        world.run(9);
        Check.due("go to it", world.go(2), true);
        Check.due("it has it again", world.look(1), 3);
    }

    private static void goBackEverything() {
        String text = "make \"a 5 make \"a [6] make \"b random 100 define \"p [[x] [pu]] define \"q [[] []] setpen 3 fd 3 ask 2 [rt 30 fd 4] tell 4 print :a clean";
        TurtleWorld world = new TurtleWorld(77);
        Check.define(world, "to p fd 1 end");
        Check.line(world, "make \"a 1 fd 20 type \"before tell 1");
        world.run(Check.ALL);
        Check.line(world, text);
        int[][] seen = new int[30][];
        int n = 0;
        seen[0] = state(world);
        while (world.run(1) == 1) {
            n++;
            seen[n] = state(world);
        }
        for (int k = n; k >= 0; k--) {
            Check.due("go(" + k + ")", world.go(k), true);
            int[] now = state(world);
            for (int i = 0; i < now.length; i++) {
                Check.due("part " + i + " of the state at " + k, now[i], seen[k][i]);
            }
        }
    }

    private static int[] state(TurtleWorld world) {
        int[] state = new int[40];
        for (int i = 0; i < 14; i++) {
            state[i] = world.look(i);
        }
        state[14] = world.sum();
        state[15] = Check.out(world).hashCode();
        state[16] = Check.value(world, 0).hashCode();
        state[17] = Check.value(world, 1).hashCode();
        state[18] = world.procedure(0, 0);
        state[19] = world.procedure(0, 1);
        state[20] = world.procedure(1, 0);
        return state;
    }

    private static void stops() {
        TurtleWorld world = Check.world("to p ask 3 [tell 5 fd 1 fd 2] end");
        Check.line(world, "tell 1 p");
        world.run(4);
        Check.due("TOLD", world.look(7), 5);
        Check.due("stop", world.stop(), true);
        Check.due("look(0)", world.look(0), 4);
        Check.due("look(1)", world.look(1), 0);
        Check.due("look(3)", world.look(3), 0);
        Check.due("TOLD is what it was", world.look(7), 1);
        Check.due("stop again", world.stop(), false);
        Check.due("run", world.run(1), 0);
        Check.due("go(4)", world.go(4), true);
        Check.due("under way again", world.look(0), 1);
        Check.due("TOLD in the ask", world.look(7), 5);
        world.run(Check.ALL);
        Check.due("TOLD at the end", world.look(7), 1);
        Check.due("the WORD stop", Check.line(world, "ask 6 [repeat 3 [stop]] fd 1"), 5);
        world.run(Check.ALL);
        Check.due("all run", world.look(0), 2);
        Check.due("its INSTRUCTIONS", world.look(2), 3);
        Check.due("TOLD behind it", world.look(7), 1);
    }

    private static void long20000() {
        TurtleWorld world = Check.world("");
        Check.line(world, "repeat 5000 [pu pd pu]"); // 1 + 5000 * 3 + 4999
        Check.due("just 20000", world.run(Check.ALL), 20000);
        Check.due("all run", world.look(0), 2);
        Check.line(world, "catch \"error [ask 3 [while [\"true] []]]");
        Check.due("without an end", world.run(Check.ALL), 20000);
        Check.due("look(0)", world.look(0), 3);
        Check.due("ERROR 13", world.look(1), 13);
        Check.due("no catch had it", world.look(6), 0);
        Check.due("TOLD", world.look(7), 0);
        Check.due("go(20000)", world.go(20000), true);
        Check.due("ERROR 13 again", world.look(1), 13);
        Check.due("go(19999)", world.go(19999), true);
        Check.due("under way", world.look(0), 1);
        Check.due("one more", world.run(5), 1);
    }

    private static void outKeepsTheLatest() {
        TurtleWorld world = Check.ran("", "repeat 201 [type \"0123456789a] type \"z");
        Check.due("signs", world.look(10), 2000);
        Check.due("out(0)", world.out(0), 'z');
        Check.due("out(1)", world.out(1), 'a');
        Check.due("out(1999)", world.out(1999), '3');
        Check.due("out(2000)", world.out(2000), -1);
        Check.due("out(-1)", world.out(-1), -1);
    }

    /** What lines make and drop must not fill the world; what is kept must stay whole. */
    private static void manyLines() {
        TurtleWorld world = Check.world("to w :n local \"k make \"k [] repeat :n [make \"k fput word \"a repcount + 10 :k] output :k end "
                + "to d :p :b define :p list [x y] :b end");
        for (int i = 0; i < 40; i++) {
            Check.line(world, "make \"g" + i + " w 74 d \"q" + i % 30 + " w 140 run list \"print \"\"x");
            world.run(Check.ALL);
            Check.due("line " + i + " has been run", world.look(1), 0);
            Check.due("made in line " + i, world.look(5) > 10000, true);
        }
        Check.line(world, "print equalp :g0 :g39 print equalp text \"q0 text \"q29 print first :g7 print count text \"q3");
        world.run(Check.ALL);
        Check.due("OUT", Check.out(world), "x\n".repeat(40) + "true\ntrue\na84\n140\n");
    }

    /** What a line made must be gone when it is gone back in. */
    private static void manyTimesBack() {
        TurtleWorld world = Check.ran("", "repeat 3000 [make \"m word \"a \"b] make \"n word :m \"c");
        for (int i = 0; i < 100; i++) {
            Check.due("go " + i, world.go(9001), true);
            Check.due("its error", world.look(1), 0);
            Check.due("what it made", world.look(5), 6003);
        }
        Check.due("m", Check.value(world, 0), "ab");
    }
}
