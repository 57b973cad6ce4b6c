import java.util.Random;

/** The class against the document a second time (Model): the same calls on both, and all that there is compared. */
public final class ModelTest {
    private static final String LIMITS = "repeat %d [make word \"g repcount repcount]"
            + "|repeat %d [define word \"q repcount [[a] [output :a]]] print arity \"q3"
            + "|make \"l [] repeat %d [make \"l lput repcount :l]"
            + "|make \"l [] catch \"error [repeat %d [make \"l list :l :l]] print error show :l"
            + "|make \"l \"a repeat %d [make \"l word :l \"b] print :l"
            + "|make \"l 1 repeat %d [make \"l word :l 0] print :l"
            + "|repeat %d [print [1 2 3 4 5 6 7 8 9 10 11 12]]"
            + "|repeat %d [repeat 40 [fd 1 rt 30]]"
            + "|make \"n %d while [:n > 0] [make \"n :n - 1 fd :n rt 150]"
            + "|deep %d"
            + "|repeat 2 [deep %d]"
            + "|print deeper %d"
            + "|catch \"error [print deepest %d] print error"
            + "|ask 3 [narrow %d]"
            + "|catch \"error [crowd %d] print error"
            + "|make \"l [1 2 3 4 5 6 7 8] repeat %d [make \"l map :l [? + 1]] show :l"
            + "|make \"l [1 2 3 4 5 6 7 8] repeat %d [catch \"error [make \"l sentence :l :l]] show count :l"
            + "|make \"l [x] repeat %d [catch \"error [make \"l map [1 2 3] [:l]]] show :l print error"
            + "|repeat %d [place 29000 29000 seth 60 repeat 999 [fd 1000]]"
            + "|make \"s [1 2 3 4 5 6 7 8 9 10 11 12 13 14 15 16 17 18 19 20] repeat %d [run [make \"t reverse :s]]"
            + "|repeat %d [catch \"error [map :s [ask 2 [fput ? :s]]]]";
    private static final String DEEP = "to deep :n if :n > 0 [deep :n - 1] end to deeper :n output ifelse :n = 0 [0] [1 + deeper :n - 1] end "
            + "to deepest :n if :n = 0 [output 0] output ( 1 + ( 1 + ( 1 * deepest :n - 1 ) ) ) end "
            + "to narrow :n local \"x make \"x :n ask 4 [if :n > 0 [narrow :n - 1]] fd :n end "
            + "to crowd :n repeat :n [local word \"v repcount make word \"v repcount repcount] end";
    private static final int[] NUMBERS = {0, 1, 2, 3, 7, 8, 12, 13, 31, 32, -1, -2, -32, -33, 64, 100, 2000, 4000, 30000, Integer.MIN_VALUE, Integer.MAX_VALUE};

    private final Random random;
    private final Author author;
    private final TurtleWorld world;
    private final Model model;
    private final StringBuilder story = new StringBuilder();
    private boolean same = true;

    private ModelTest(int seed) {
        random = new Random(seed);
        author = new Author(random);
        world = new TurtleWorld(seed % 7 == 0 ? 0 : seed * 1000003);
        model = new Model(seed % 7 == 0 ? 0 : seed * 1000003);
    }

    public static void main(String[] args) throws InterruptedException {
        int from = args.length > 1 ? Integer.parseInt(args[0]) : 1;
        int to = args.length > 1 ? Integer.parseInt(args[1]) : 120;
        // The model works by recursion, some ten methods for each LEVEL and each that is WAITING.
        Thread thread = new Thread(null, () -> {
            for (int seed = from; seed <= to; seed++) {
                new ModelTest(seed).calls();
            }
        }, "model", 1L << 29);
        // A thread that falls would be silent for main, which gives the exit code.
        Throwable[] fallen = new Throwable[1];
        thread.setUncaughtExceptionHandler((which, what) -> fallen[0] = what);
        thread.start();
        thread.join();
        if (fallen[0] != null) {
            fallen[0].printStackTrace(System.out);
        }
        Check.due("all runs came to their end", fallen[0] == null, true);
        Check.finish();
    }

    private void calls() {
        compare();
        if (random.nextInt(4) > 0) {
            feed(Author.FIRST_PROCEDURES);
            due("define()", world.define(), model.define());
            feed(Author.FIRST_LINE);
            due("line()", world.line(), model.line());
            goThrough();
        }
        for (int i = 0; i < 25 && same; i++) {
            int what = random.nextInt(10);
            if (what < 3) {
                feed(what == 0 ? noise() : author.procedures());
                due("define()", world.define(), model.define());
            } else if (what < 9) {
                feed(what == 3 ? noise() : what == 4 ? atLimit() : what == 5 ? author.soup() : author.line());
                due("line()", world.line(), model.line());
            } else {
                feed(DEEP);
                due("define()", world.define(), model.define());
            }
            compare();
            goThrough();
        }
    }

    private String atLimit() {
        String[] lines = LIMITS.split("\\|");
        int[] often = {1, 5, 11, 12, 13, 29, 30, 38, 41, 62, 66, 75, 140, 148, 149, 150, 151, 300, 599, 600, 601, 700, 5000};
        return String.format(lines[random.nextInt(lines.length)], often[random.nextInt(often.length)]);
    }

    /** Bytes that are no text at all, or a text with some of them. */
    private String noise() {
        StringBuilder text = new StringBuilder(random.nextBoolean() ? author.procedures() : author.line());
        int times = random.nextInt(4);
        for (int i = 0; i < times; i++) {
            String[] all = {"" + (char) random.nextInt(256), "[", "]", " [[[[[[[[[[[ ", "]]]]]", " to ", " end ", " :", ";", "\n", "-", "--7", "12345678901234567890",
                "abcdefghijklmnopqrstuvwxyzabcd", "abcdefghijklmnopqrstuvwxyzabcde", "0000000000000000000000000000000000000012", ("x ").repeat(random.nextInt(700)), " -", "\t", "+"};
            text.insert(random.nextInt(text.length() + 1), all[random.nextInt(all.length)]);
        }
        return text.toString();
    }

    private void feed(String text) {
        String bytes = text.length() > 4000 ? text.substring(0, 4000) : text;
        if (model.tape.length() > 0) {
            due("end(0)", world.end(0), true);
            model.tape.setLength(0);
        }
        story.append("\n  ").append(bytes);
        Check.tape(world, bytes);
        model.tape.append(bytes);
    }

    /** Each INSTRUCTION by itself, as far as the model need not run too much again. */
    private void goStepByStep() {
        for (int i = 0; i < 60 && same && model.look(0) == 1; i++) {
            due("run(1)", world.run(1), model.run(1));
            compare();
        }
    }

    private void goThrough() {
        if (random.nextInt(4) == 0) {
            goStepByStep();
        }
        int times = random.nextInt(6);
        for (int i = 0; i < times && same; i++) {
            switch (random.nextInt(6)) {
                case 0: {
                    int n = random.nextInt(4) == 0 ? any() : random.nextInt(model.look(2) + 2);
                    due("go(" + n + ")", world.go(n), model.go(n));
                    break;
                }
                case 1: {
                    if (random.nextInt(3) == 0) {
                        due("stop()", world.stop(), model.stop());
                    }
                    break;
                }
                case 2: {
                    int n = any();
                    due("run(" + n + ")", world.run(n), model.run(n));
                    break;
                }
                default: {
                    int n = random.nextInt(random.nextInt(4) == 0 ? 400 : 12);
                    due("run(" + n + ")", world.run(n), model.run(n));
                    break;
                }
            }
            compare();
        }
        if (random.nextInt(8) > 0) {
            due("run(30000)", world.run(30000), model.run(30000));
            compare();
        }
        if (model.look(0) == 1) {
            due("stop()", world.stop(), model.stop());
            compare();
        }
    }

    private int any() {
        return NUMBERS[random.nextInt(NUMBERS.length)];
    }

    private void due(String what, boolean got, boolean want) {
        due(what, got ? 1 : 0, want ? 1 : 0);
    }

    private void due(String what, int got, int want) {
        story.append("\n  ").append(what).append(" = ").append(want);
        is(what, got, want);
    }

    private void is(String what, int got, int want) {
        if (got != want && same) {
            same = false;
            System.out.println("behind:" + story);
        }
        Check.due(what, got, want);
    }

    private void is(String what, String got, String want) {
        if (!got.equals(want) && same) {
            same = false;
            System.out.println("behind:" + story);
        }
        Check.due(what, got, want);
    }

    private void compare() {
        for (int what = -1; what < 15; what++) {
            is("look(" + what + ")", world.look(what), model.look(what));
        }
        for (int what = -1; what < 3; what++) {
            is("fault(" + what + ")", world.fault(what), model.fault(what));
        }
        is("sum()", world.sum(), model.sum());
        is("OUT", Check.out(world), model.out());
        compareNames();
        compareTurtles();
        int calls = model.look(13);
        for (int k = -1; k <= calls; k++) {
            for (int what = -1; what < 4; what++) {
                is("call(" + k + ", " + what + ")", world.call(k, what), model.call(k, what));
            }
        }
    }

    private void compareNames() {
        int globals = Math.min(world.look(8), model.look(8));
        for (int k = 0; k < globals; k++) {
            is("name(" + k + ")", Check.name(world, k), model.name(k));
            is("value(" + k + ")", Check.value(world, k), model.value(k));
        }
        int procedures = Math.min(world.look(9), model.look(9));
        for (int k = 0; k < procedures; k++) {
            StringBuilder text = new StringBuilder();
            text.append(world.procedure(k, 0)).append(' ').append(world.procedure(k, 1)).append(' ');
            for (int i = 2; world.procedure(k, i) != TurtleWorld.NONE; i++) {
                text.append((char) world.procedure(k, i));
            }
            is("procedure(" + k + ")", text.toString(), model.procedure(k));
        }
    }

    private void compareTurtles() {
        for (int t = 0; t < 8; t++) {
            for (int axis = 0; axis < 2; axis++) {
                is("place", world.place(t, axis, 0), model.place(t, axis, 0));
                is("place", world.place(t, axis, 1), model.place(t, axis, 1));
                int near = (int) Math.floor((model.place(t, axis, 0) + model.place(t, axis, 1) * Math.sqrt(3)) / 2);
                for (int v = near - 1; v < near + 3; v++) {
                    is("side", world.side(t, axis, v), model.side(t, axis, v));
                }
            }
            for (int what = -1; what < 4; what++) {
                is("turtle(" + t + ", " + what + ")", world.turtle(t, what), model.turtle(t, what));
            }
        }
        int i = random.nextInt(70) - 35;
        int j = random.nextInt(70) - 35;
        is("dot(" + i + ", " + j + ")", world.dot(i, j), model.dot(i, j));
    }
}
