import java.nio.charset.StandardCharsets;

/** What the tests share: worlds that are fed with texts, and the count of wrong answers. */
final class Check {
    static final int ALL = 30000;
    private static int wrong = 0;
    private static int asked = 0;

    private Check() {
    }

    static void due(String what, long got, long want) {
        asked++;
        if (got != want) {
            wrong++;
            System.out.println(brief(what) + " answered " + got + ", due is " + want);
        }
    }

    /** A long text without its middle. */
    private static String brief(String text) {
        int length = text.length();
        return length <= 300 ? text : text.substring(0, 150) + " .. " + text.substring(length - 100);
    }

    static void due(String what, boolean got, boolean want) {
        due(what, got ? 1 : 0, want ? 1 : 0);
    }

    static void due(String what, String got, String want) {
        asked++;
        if (!got.equals(want)) {
            wrong++;
            System.out.println(brief(what) + " answered '" + brief(got) + "', due is '" + brief(want) + "'");
        }
    }

    static void finish() {
        System.out.println(asked + " answers, " + wrong + " not as due");
        if (wrong > 0) {
            System.exit(1);
        }
    }

    /** Puts a text on the tape, which is empty; characters are bytes. */
    static void tape(TurtleWorld world, String text) {
        byte[] bytes = text.getBytes(StandardCharsets.ISO_8859_1);
        for (int i = 0; i < bytes.length; i += 20) {
            int[] ints = new int[5];
            for (int k = 0; k < 20; k++) {
                int b = i + k < bytes.length ? bytes[i + k] & 255 : 0;
                ints[k / 4] = ints[k / 4] << 8 | b;
            }
            if (!world.feed(ints[0], ints[1], ints[2], ints[3], ints[4])) {
                due("feeding '" + text + "'", false, true);
                return;
            }
        }
        due("ending '" + text + "'", world.end(bytes.length), true);
    }

    static int define(TurtleWorld world, String text) {
        tape(world, text);
        return world.define();
    }

    static int line(TurtleWorld world, String text) {
        tape(world, text);
        return world.line();
    }

    static TurtleWorld world(String procedures) {
        TurtleWorld world = new TurtleWorld(1);
        if (!procedures.isEmpty()) {
            due("define '" + procedures + "'", define(world, procedures) > 0, true);
        }
        return world;
    }

    static TurtleWorld ran(String procedures, String text) {
        TurtleWorld world = world(procedures);
        due("line '" + text + "'", line(world, text) >= 0, true);
        world.run(ALL);
        return world;
    }

    static String out(TurtleWorld world) {
        StringBuilder text = new StringBuilder();
        for (int k = 0; world.out(k) != TurtleWorld.NONE; k++) {
            text.append((char) world.out(k));
        }
        return text.reverse().toString();
    }

    static String value(TurtleWorld world, int k) {
        StringBuilder text = new StringBuilder();
        for (int i = 0; world.value(k, i) != TurtleWorld.NONE; i++) {
            text.append((char) world.value(k, i));
        }
        return text.toString();
    }

    /** The line is run to its end, which is no ERROR, and brings this to OUT. */
    static void prints(String procedures, String text, String want) {
        TurtleWorld world = ran(procedures, text);
        due("look(0) behind '" + text + "', error " + world.look(1), world.look(0), 2);
        due("'" + text + "'", out(world), want);
    }

    static void prints(String text, String want) {
        prints("", text, want);
    }

    /** The line ends by this ERROR, behind so many INSTRUCTIONS. */
    static void fails(String procedures, String text, int error, int done) {
        TurtleWorld world = ran(procedures, text);
        due("look(0) behind '" + text + "'", world.look(0), 3);
        due("the ERROR of '" + text + "'", world.look(1), error);
        due("the INSTRUCTIONS of '" + text + "'", world.look(2), done);
        due("the LEVELS behind '" + text + "'", world.look(3), 0);
        due("what is WAITING behind '" + text + "'", world.look(4), 0);
    }

    static void fails(String text, int error, int done) {
        fails("", text, error, done);
    }

    /** The INSTRUCTION with this number ends the line by this ERROR, and does nothing else. */
    static void refuses(String procedures, String text, int error, int number) {
        TurtleWorld world = world(procedures);
        due("line '" + text + "'", line(world, text) >= 0, true);
        due("the INSTRUCTIONS ahead in '" + text + "'", world.run(number - 1), number - 1);
        due("look(0) ahead of the ERROR of '" + text + "', error " + world.look(1), world.look(0), 1);
        String before = all(world);
        due("the INSTRUCTION with the ERROR of '" + text + "'", world.run(ALL), 1);
        due("look(0) behind '" + text + "'", world.look(0), 3);
        due("the ERROR of '" + text + "'", world.look(1), error);
        due("all else behind '" + text + "'", all(world), before);
    }

    static void refuses(String text, int error, int number) {
        refuses("", text, error, number);
    }

    /** All that a line can change, but how the line itself stands. */
    static String all(TurtleWorld world) {
        StringBuilder text = new StringBuilder();
        for (int what = 5; what <= 12; what++) {
            text.append(world.look(what)).append(' ');
        }
        text.append(world.sum()).append(' ').append(out(world));
        for (int k = 0; k < world.look(8); k++) {
            text.append(name(world, k)).append('=').append(value(world, k)).append(' ');
        }
        for (int k = 0; k < world.look(9); k++) {
            for (int what = 0; world.procedure(k, what) != TurtleWorld.NONE; what++) {
                text.append(world.procedure(k, what)).append(' ');
            }
        }
        return text.toString();
    }

    static String name(TurtleWorld world, int k) {
        StringBuilder text = new StringBuilder();
        for (int i = 0; world.name(k, i) != TurtleWorld.NONE; i++) {
            text.append((char) world.name(k, i));
        }
        return text.toString();
    }

    /** The FAULT of what has just been read: the call's answer, its place, its kind, and an empty tape. */
    static void fault(TurtleWorld world, int answer, String text, int kind, int place) {
        due("reading '" + text + "'", answer, -kind);
        due("the place in '" + text + "'", world.fault(0), place);
        due("the kind in '" + text + "'", world.fault(1), kind);
        due("the tape behind '" + text + "'", world.look(11), 0);
    }
}
