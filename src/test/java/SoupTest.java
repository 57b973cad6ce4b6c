import java.util.NoSuchElementException;
import java.util.Random;

/** Texts that make little sense, and calls with any numbers: no call throws but where the document says so, and go() agrees with run(). */
public final class SoupTest {
    private static final String[] WORDS = (String.join(" ", TextEdgesTest.APPLIED) + " ( ) + - * / = < > [ ] [ ] [ ] 0 1 2 3 -1 30 7 1000000000 -1000000000 "
            + "\"a \"b \"true \"false \"error \" : :a :b :x p q r p q r to end \"p \"q 5a -5a \"1000000001 [a b] [1 2 3] [fd 1] [] [?] [:x] "
            + "[[x] [print :x]] [[] [output 5]] [pu 5] [throw \"a] [\"true] zz").split(" (?![^\\[]*\\])");
    private static final int[] NUMBERS = {0, 1, 2, 3, 7, 8, 13, 31, 32, -1, -2, -32, -33, 64, 100, 2000, 30000, Integer.MIN_VALUE, Integer.MAX_VALUE};

    public static void main(String[] args) {
        for (int seed = 1; seed <= 150; seed++) {
            runOfCalls(new Random(seed), seed);
        }
        Check.finish();
    }

    private static void runOfCalls(Random random, int seed) {
        TurtleWorld world = new TurtleWorld(seed);
        for (int i = 0; i < 30; i++) {
            String text = soup(random, 1 + random.nextInt(random.nextInt(4) == 0 ? 60 : 12));
            if (random.nextInt(4) == 0) {
                Check.tape(world, "to " + "pqr".charAt(random.nextInt(3)) + (random.nextBoolean() ? " :x " : " ") + text + " end");
                world.define();
            } else {
                Check.tape(world, text);
                world.line();
            }
            world.end(0);
            goesWhereItRan(world, random, text);
            asks(world, random);
            if (random.nextInt(3) > 0) {
                world.run(Check.ALL);
                world.stop();
            }
        }
    }

    private static String soup(Random random, int words) {
        StringBuilder text = new StringBuilder();
        for (int i = 0; i < words; i++) {
            text.append(WORDS[random.nextInt(WORDS.length)]).append(random.nextInt(9) == 0 ? "" : " ");
        }
        return text.length() > 3900 ? text.substring(0, 3900) : text.toString();
    }

    private static String stand(TurtleWorld world) {
        StringBuilder text = new StringBuilder(Check.all(world));
        for (int what = 0; what < 14; what++) {
            text.append(' ').append(world.look(what));
        }
        for (int k = 0; world.call(k, 0) != -1; k++) {
            text.append(' ').append(world.call(k, 0)).append(' ').append(world.call(k, 1)).append(' ').append(world.call(k, 2));
        }
        return text.toString();
    }

    private static void goesWhereItRan(TurtleWorld world, Random random, String text) {
        world.run(random.nextInt(10));
        int done = world.look(2);
        boolean underWay = world.look(0) == 1;
        String before = stand(world);
        world.run(random.nextInt(200));
        if (underWay) {
            Check.due("go(" + done + ") in '" + text + "'", world.go(done), true);
            Check.due("all behind it in '" + text + "'", stand(world), before);
        }
    }

    private static int any(Random random) {
        return random.nextInt(20) == 0 ? random.nextInt() : NUMBERS[random.nextInt(NUMBERS.length)];
    }

    private static void asks(TurtleWorld world, Random random) {
        for (int i = 0; i < 6; i++) {
            int a = any(random);
            int b = any(random);
            Check.due("answers without a sign below 0", world.look(a) >= -1 || a == 12, true);
            Check.due("turtle", world.turtle(a, b) >= -1, true);
            Check.due("dot", world.dot(a, b) >= -1 && world.dot(a, b) < 8, true);
            Check.due("out", isSign(world.out(a)), true);
            Check.due("name", isSign(world.name(a, b)), true);
            Check.due("value", isSign(world.value(a, b)), true);
            Check.due("procedure", world.procedure(a, b) >= -1, true);
            Check.due("call", world.call(a, b) >= -1, true);
            Check.due("fault", world.fault(a) >= -1, true);
            Check.due("place", placeAnswers(world, a, b, any(random)), true);
            Check.due("end", world.end(a), a == 0);
        }
    }

    private static boolean isSign(int sign) {
        return sign == -1 || sign == 10 || sign >= 32 && sign <= 126;
    }

    private static boolean placeAnswers(TurtleWorld world, int turtle, int axis, int part) {
        boolean there = turtle >= 0 && turtle < 8 && axis >= 0 && axis < 2;
        boolean answered = true;
        try {
            world.place(turtle, axis, part);
        } catch (NoSuchElementException e) {
            answered = false;
        }
        boolean sided = true;
        try {
            world.side(turtle, axis, part);
        } catch (NoSuchElementException e) {
            sided = false;
        }
        return answered == (there && part >= 0 && part < 2) && sided == there;
    }
}
