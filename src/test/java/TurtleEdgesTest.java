import java.math.BigInteger;
import java.util.NoSuchElementException;
import java.util.Random;
import java.util.TreeSet;

/** The edges of the turtles' words, sentence by sentence, and of promises 11 to 14 and 20. */
public final class TurtleEdgesTest {
    public static void main(String[] args) {
        eightTurtles();
        tellsAndAsks();
        stepsOfAllSizes();
        farthestPlaces();
        onePartTooFar();
        tooFarDrawsNothing();
        turns();
        pens();
        placesAndHome();
        cleans();
        halves();
        theScreensEdges();
        nearerEnds();
        linesAreExact();
        same();
        sidesAreExact();
        noSuchPlaces();
        turtleAnswers();
        dotAnswers();
        sums();
        Check.finish();
    }

    /** (a + b * r) / d, exactly: a second way to all that is floored or compared. */
    private static final class Exact {
        final BigInteger a;
        final BigInteger b;
        final BigInteger d;

        Exact(BigInteger a, BigInteger b, BigInteger d) {
            BigInteger g = a.gcd(b).gcd(d).multiply(BigInteger.valueOf(d.signum()));
            this.a = a.divide(g);
            this.b = b.divide(g);
            this.d = d.divide(g);
        }

        Exact(long a, long b, long d) {
            this(BigInteger.valueOf(a), BigInteger.valueOf(b), BigInteger.valueOf(d));
        }

        Exact plus(Exact o) {
            return new Exact(a.multiply(o.d).add(o.a.multiply(d)), b.multiply(o.d).add(o.b.multiply(d)), d.multiply(o.d));
        }

        Exact minus(Exact o) {
            return plus(new Exact(o.a.negate(), o.b.negate(), o.d));
        }

        Exact times(Exact o) {
            BigInteger three = BigInteger.valueOf(3);
            return new Exact(a.multiply(o.a).add(three.multiply(b).multiply(o.b)), a.multiply(o.b).add(b.multiply(o.a)), d.multiply(o.d));
        }

        Exact over(Exact o) {
            BigInteger norm = o.a.multiply(o.a).subtract(BigInteger.valueOf(3).multiply(o.b).multiply(o.b));
            return times(new Exact(o.a.multiply(o.d), o.b.multiply(o.d).negate(), norm));
        }

        int sign() {
            BigInteger left = a.multiply(a).multiply(BigInteger.valueOf(a.signum()));
            BigInteger right = b.multiply(b).multiply(BigInteger.valueOf(-3L * b.signum()));
            return left.compareTo(right);
        }

        /** By halving the range in which it is, with no root at all. */
        int floor() {
            int low = -4000000;
            int high = 4000000;
            while (high - low > 1) {
                int middle = (low + high) >> 1;
                if (minus(new Exact(middle, 0, 1)).sign() >= 0) {
                    low = middle;
                } else {
                    high = middle;
                }
            }
            return low;
        }

        int nearest() {
            return plus(new Exact(1, 0, 2)).floor();
        }
    }

    private static Exact at(TurtleWorld world, int turtle, int axis) {
        return new Exact(world.place(turtle, axis, 0), world.place(turtle, axis, 1), 2);
    }

    private static void place(String text, TurtleWorld world, int turtle, int px, int qx, int py, int qy) {
        int[] due = {px, qx, py, qy};
        for (int k = 0; k < 4; k++) {
            Check.due("part " + k + " of turtle " + turtle + " behind '" + text + "'", world.place(turtle, k / 2, k % 2), due[k]);
        }
    }

    private static void eightTurtles() {
        TurtleWorld world = new TurtleWorld(1);
        for (int turtle = 0; turtle < 8; turtle++) {
            Check.line(world, "tell " + turtle + " fd " + (turtle + 1) + " setpen " + turtle + " rt " + 30 * turtle + " pu");
            world.run(Check.ALL);
            Check.due("no ERROR", world.look(1), 0);
            Check.due("TOLD", world.look(7), turtle);
        }
        for (int turtle = 0; turtle < 8; turtle++) {
            place("each its own", world, turtle, 0, 0, 2 * turtle + 2, 0);
            Check.due("HEADING of " + turtle, world.turtle(turtle, 0), 30 * turtle);
            Check.due("PEN of " + turtle, world.turtle(turtle, 1), turtle);
            Check.due("DOWN of " + turtle, world.turtle(turtle, 2), 0);
        }
    }

    private static void tellsAndAsks() {
        for (String word : new String[] {"tell 8", "tell -1", "tell 1000000000", "ask 8 [pu]", "ask -1 [pu]", "ask -1000000000 [pu]"}) {
            Check.refuses("tell 3 " + word, 3, 2);
        }
        Check.prints("tell 0 show who tell 7 show who ask 0 [show who] show who ask 7 [show who] show ask 3 [tell 5 who] show who",
                "0\n7\n0\n7\n7\n5\n7\n");
        Check.prints("to f ask 1 [stop] end to g ask 2 [throw \"t] end to h ask 3 [output who] end",
                "tell 6 f show who catch \"t [g] show who show h show who catch \"error [ask 4 [zz]] show who", "6\n6\n3\n6\n6\n");
        Check.due("TOLD behind the ERROR", Check.ran("", "tell 6 ask 4 [ask 5 [zz]]").look(7), 6);
        Check.due("TOLD behind the WORD stop", Check.ran("", "tell 6 ask 4 [ask 5 [stop]]").look(7), 6);
        TurtleWorld world = Check.ran("", "ask 4 [fd 3 rt 30 setpen 2 pu]");
        place("ask 4", world, 4, 0, 0, 6, 0);
        place("ask 4", world, 0, 0, 0, 0, 0);
        Check.due("PEN of 4", world.turtle(4, 1), 2);
        Check.due("PEN of 0", world.turtle(0, 1), 1);
    }

    private static void stepsOfAllSizes() {
        for (int n : new int[] {0, 1, -1, 999, 1000, -1000}) {
            place("fd " + n, Check.ran("", "fd " + n), 0, 0, 0, 2 * n, 0);
            place("bk " + n, Check.ran("", "bk " + n), 0, 0, 0, -2 * n, 0);
            place("seth 60 fd " + n, Check.ran("", "seth 60 fd " + n), 0, 0, n, n, 0);
        }
        for (String n : new String[] {"1001", "-1001", "1000000000", "-1000000000", "\"a", "[1]"}) {
            Check.refuses("fd " + n, 3, 1);
            Check.refuses("bk " + n, 3, 1);
        }
    }

    private static final int[][] STEPS = {{0, 0, 2, 0}, {1, 0, 0, 1}, {0, 1, 1, 0}, {2, 0, 0, 0}, {0, 1, -1, 0}, {1, 0, 0, -1}};

    private static int step(int heading, int k) {
        return heading < 6 ? STEPS[heading][k] : -STEPS[heading - 6][k];
    }

    /** Each part may be 1000000 and -1000000, and no more. */
    private static void farthestPlaces() {
        for (int heading = 0; heading < 12; heading++) {
            int times = heading % 3 == 0 ? 500 : 1000;
            String text = "seth " + 30 * heading + " repeat " + times + " [fd 1000] ";
            int[] due = new int[4];
            for (int k = 0; k < 4; k++) {
                due[k] = 1000 * times * step(heading, k);
            }
            place(text, Check.ran("", text), 0, due[0], due[1], due[2], due[3]);
            Check.refuses(text + "fd 1", 7, 1 + 2 * times + 1);
            Check.refuses(text + "bk -1000", 7, 1 + 2 * times + 1);
            TurtleWorld world = Check.ran("", text + "bk 1 fd 1 fd 0");
            Check.due("no ERROR up to there", world.look(1), 0);
        }
    }

    /** One part that would be beyond is enough, and a step may end just at the limit. */
    private static void onePartTooFar() {
        String up = "repeat 500 [fd 1000] ";
        Check.refuses(up + "seth 60 fd 1", 7, 1002);
        Check.refuses(up + "seth 300 fd 1", 7, 1002);
        place(up + "seth 120 fd 1", Check.ran("", up + "seth 120 fd 1"), 0, 0, 1, 999999, 0);
        place(up + "seth 30 fd 1", Check.ran("", up + "seth 30 fd 1"), 0, 1, 0, 1000000, 1);
        String right = "seth 60 repeat 1000 [fd 1000] seth 180 fd 1000 ";
        Check.refuses(right + "seth 60 fd 1", 7, 1 + 2000 + 2 + 2);
        Check.refuses(right + "seth 120 fd 1", 7, 1 + 2000 + 2 + 2);
        place(right, Check.ran("", right + "seth 90 fd 1"), 0, 2, 1000000, 998000, 0);
        String left = "seth 210 repeat 1000 [fd 1000] seth 90 fd 1000 ";
        Check.refuses(left + "seth 210 fd 1", 7, 1 + 2000 + 2 + 2);
        Check.refuses(left + "seth 330 bk 1", 7, 1 + 2000 + 2 + 2);
        place(left, Check.ran("", left + "seth 330 fd 1"), 0, -998001, 0, 0, -999999);
        Check.refuses("bk 1 repeat 499 [bk 1000] bk 1000", 7, 1 + 2 * 499 + 1);
        place("just there", Check.ran("", "bk 1 repeat 499 [bk 1000] bk 999"), 0, 0, 0, -1000000, 0);
    }

    // With x and y within 1 of 0 and px at its limit.
    private static final String NEAR = "pu seth 60 repeat 577 [fd 1000] fd 350 seth 180 repeat 288 [fd 1000] fd 675 seth 270 repeat 500 [fd 1000] ";

    private static void tooFarDrawsNothing() {
        TurtleWorld world = Check.ran("", NEAR + "pd");
        place(NEAR, world, 0, -1000000, 577350, 0, 0);
        Check.due("x is below 0", world.side(0, 0, 0), -1);
        Check.due("and above -1", world.side(0, 0, -1), 1);
        int ahead = world.look(2);
        Check.refuses(NEAR + "pd fd 1", 7, ahead + 1);
        Check.due("DOTS of a step back", drawn(Check.ran("", NEAR + "pd bk 2")), "0,0 1,0 2,0 ");
    }

    private static void turns() {
        int[][] due = {{0, 0}, {30, 1}, {-30, 11}, {330, 11}, {360, 0}, {-360, 0}, {390, 1}, {-390, 11}, {999999990, 33333333 % 12}, {-999999990, 12 - 33333333 % 12}};
        for (int[] turn : due) {
            Check.due("rt " + turn[0], Check.ran("", "rt " + turn[0]).turtle(0, 0), 30 * turn[1]);
            Check.due("seth 90 rt " + turn[0], Check.ran("", "seth 90 rt " + turn[0]).turtle(0, 0), 30 * ((turn[1] + 3) % 12));
            Check.due("lt " + turn[0], Check.ran("", "lt " + turn[0]).turtle(0, 0), 30 * ((12 - turn[1]) % 12));
            Check.due("seth 90 seth " + turn[0], Check.ran("", "seth 90 seth " + turn[0]).turtle(0, 0), 30 * turn[1]);
            Check.due("heading behind seth " + turn[0], Check.out(Check.ran("", "seth " + turn[0] + " show heading")), 30 * turn[1] + "\n");
        }
        for (String word : new String[] {"rt", "lt", "seth"}) {
            for (String n : new String[] {"1", "-1", "29", "31", "15", "-29", "-31", "1000000000", "\"a", "[]"}) {
                Check.refuses("rt 60 " + word + " " + n, 3, 2);
            }
        }
    }

    private static void pens() {
        for (int pen = 0; pen < 8; pen++) {
            TurtleWorld world = Check.ran("", "setpen " + pen + " fd 1 show pen show dot");
            Check.due("PEN", world.turtle(0, 1), pen);
            Check.due("a DOT of it", world.dot(0, 1), pen);
            Check.due("pen and dot", Check.out(world), pen + "\n" + pen + "\n");
        }
        for (String n : new String[] {"8", "-1", "1000000000", "\"a", "[]"}) {
            Check.refuses("setpen 5 setpen " + n, 3, 2);
        }
        Check.due("pu", Check.ran("", "pu").turtle(0, 2), 0);
        Check.due("pu pu", Check.ran("", "pu pu").turtle(0, 2), 0);
        Check.due("pu pd", Check.ran("", "pu pd").turtle(0, 2), 1);
        Check.due("pd", Check.ran("", "pd").turtle(0, 2), 1);
    }

    private static void placesAndHome() {
        int[] edges = {-30000, 30000, 0, -1};
        for (int n : edges) {
            for (int m : edges) {
                String text = "place " + n + " " + m;
                place(text, Check.ran("", "seth 30 fd 7 seth 60 fd 9 " + text), 0, 2 * n, 0, 2 * m, 0);
            }
        }
        for (String n : new String[] {"30001", "-30001", "1000000000", "\"a", "[0]"}) {
            Check.refuses("fd 3 place " + n + " 0", 3, 2);
            Check.refuses("fd 3 place 0 " + n, 3, 2);
        }
        Check.due("place draws no LINE", drawn(Check.ran("", "place 5 5 place 0 3")), "");
        Check.due("home draws no LINE", drawn(Check.ran("", "place 5 5 home")), "");
        TurtleWorld world = Check.ran("", "rt 90 setpen 3 place 5 5");
        Check.due("place leaves the HEADING", world.turtle(0, 0), 90);
        world = Check.ran("", "setpen 3 pu rt 30 fd 7 rt 30 fd 9 home");
        place("home", world, 0, 0, 0, 0, 0);
        Check.due("home: HEADING", world.turtle(0, 0), 0);
        Check.due("home leaves the PEN", world.turtle(0, 1), 3);
        Check.due("home leaves it up", world.turtle(0, 2), 0);
    }

    private static void cleans() {
        TurtleWorld world = Check.ran("", "place -32 -32 setpen 2 fd 0 place 31 31 fd 0 place 31 -32 fd 0 place -32 31 fd 0");
        Check.due("the four corners", drawn(world), "-32,-32 31,-32 -32,31 31,31 ");
        Check.line(world, "rt 30 clean");
        world.run(Check.ALL);
        Check.due("clean", drawn(world), "");
        place("clean", world, 0, -64, 0, 62, 0);
        Check.due("clean leaves the PEN", world.turtle(0, 1), 2);
        Check.due("clean leaves the HEADING", world.turtle(0, 0), 30);
    }

    /** All DOTS that are not 0, as i,j in rows. */
    private static String drawn(TurtleWorld world) {
        StringBuilder text = new StringBuilder();
        for (int j = -32; j < 32; j++) {
            for (int i = -32; i < 32; i++) {
                if (world.dot(i, j) > 0) {
                    text.append(i).append(',').append(j).append(' ');
                }
            }
        }
        return text.toString();
    }

    private static void draws(String text, String due) {
        Check.due("DOTS of " + text, drawn(Check.ran("", text)), due);
    }

    /** The DOT of a place is floor(x + 1 / 2): a half goes up, of what is below 0, too. */
    private static void halves() {
        draws("pu seth 30 fd 1 pd seth 0 bk 2", "1,-1 1,0 1,1 "); // x is 0.5, y from 0.86 to -1.13
        draws("pu seth 30 bk 1 pd seth 0 fd 2", "0,-1 0,0 0,1 "); // x is -0.5
        draws("pu seth 60 fd 1 pd seth 90 bk 2", "-1,1 0,1 1,1 "); // y is 0.5
        draws("pu seth 60 bk 1 pd seth 90 fd 2", "-1,0 0,0 1,0 "); // y is -0.5
        draws("pu seth 30 fd 1 pd fd 0", "1,1 ");
        draws("pu seth 30 bk 1 pd fd 0", "0,-1 ");
        Check.prints("pu seth 30 fd 1 show xcor show ycor home seth 30 bk 1 show xcor show ycor", "0\n0\n-1\n-1\n");
        Check.prints("place -5 7 show xcor show ycor seth 60 bk 1 show xcor show ycor", "-5\n7\n-6\n6\n");
    }

    private static void theScreensEdges() {
        draws("place 31 0 seth 90 fd 1000", "31,0 ");
        draws("place -32 0 seth 90 bk 1000", "-32,0 ");
        draws("place 32 0 seth 90 fd 5", "");
        draws("place -33 0 seth 90 bk 5", "");
        draws("place 0 31 fd 1000", "0,31 ");
        draws("place 0 -32 bk 1000", "0,-32 ");
        draws("place 0 32 fd 5", "");
        draws("place 0 -33 bk 5", "");
        draws("place 32 0 fd 5", "");
        draws("place -33 0 fd 5", "");
        draws("place 0 32 seth 90 fd 5", "");
        draws("place 0 -33 seth 90 fd 5", "");
        // x is 31.5, of which the DOT is beyond, and -32.5, of which it is not; y likewise.
        draws("pu place 31 0 seth 30 fd 1 pd seth 0 fd 0", "");
        draws("pu place -33 0 seth 30 fd 1 pd seth 0 fd 0", "-32,1 ");
        draws("pu place 0 31 seth 60 fd 1 pd seth 90 fd 0", "");
        draws("pu place 0 -33 seth 60 fd 1 pd seth 90 fd 0", "1,-32 ");
        TurtleWorld world = Check.ran("", "place 0 -500 fd 1000");
        Check.due("a whole column", drawn(world).split(" ").length, 64);
        world = Check.ran("", "place -500 0 seth 90 fd 1000");
        Check.due("a whole row", drawn(world).split(" ").length, 64);
        Check.prints("setpen 5 place 31 31 fd 0 show dot place 32 31 show dot place 31 32 show dot", "5\n0\n0\n");
        Check.prints("setpen 5 place -32 -32 fd 0 show dot place -33 -32 show dot place -32 -33 show dot", "5\n0\n0\n");
        Check.prints("place 30000 -30000 show dot", "0\n");
    }

    /** Where x does not become i on the line, its DOT has the y of the end that is nearer. */
    private static void nearerEnds() {
        draws("fd 0", "0,0 ");
        draws("seth 60 fd 1", "0,0 1,1 "); // x ends at 0.86, y at 0.5: column 1 is beyond the end
        draws("seth 60 fd 2", "0,0 1,1 2,1 "); // x ends at 1.73, y at 1
        draws("seth 120 fd 1", "0,0 1,0 "); // y ends at -0.5, of which the DOT is 0
        draws("seth 30 fd 1", "0,0 1,1 ");
        draws("seth 330 fd 1", "0,0 0,1 "); // x ends at -0.5, of which the DOT is 0
        draws("pu seth 60 fd 1 pd fd 1", "1,1 2,1 "); // begins at 0.86, 0.5, where x becomes 1 on the line
        draws("pu seth 60 fd 1 pd seth 120 fd 1", "1,0 2,0 "); // from 0.86, 0.5 to 1.73, 0
    }

    /** Many LINES by the words of the document, with exact numbers, against those of the world. */
    private static void linesAreExact() {
        Random random = new Random(11);
        for (int trial = 0; trial < 60; trial++) {
            StringBuilder text = new StringBuilder();
            int[] headings = new int[25];
            int[] steps = new int[25];
            int x = random.nextInt(80) - 40;
            int y = random.nextInt(80) - 40;
            text.append("pu place ").append(x).append(' ').append(y).append(" pd ");
            for (int k = 0; k < steps.length; k++) {
                headings[k] = random.nextInt(12);
                steps[k] = random.nextInt(4) == 0 ? random.nextInt(100) - 50 : random.nextInt(9) - 4;
                text.append("setpen ").append(k % 7 + 1).append(" seth ").append(30 * headings[k]).append(" fd ").append(steps[k]).append(' ');
            }
            TurtleWorld world = Check.ran("", text.toString());
            int[][] due = new int[64][64];
            int[] parts = {2 * x, 0, 2 * y, 0};
            for (int k = 0; k < steps.length; k++) {
                int[] goal = new int[4];
                for (int i = 0; i < 4; i++) {
                    goal[i] = parts[i] + steps[k] * step(headings[k], i);
                }
                draw(due, parts, goal, headings[k], k % 7 + 1);
                parts = goal;
            }
            place(text.toString(), world, 0, parts[0], parts[1], parts[2], parts[3]);
            for (int j = -32; j < 32; j++) {
                for (int i = -32; i < 32; i++) {
                    if (world.dot(i, j) != due[j + 32][i + 32]) {
                        Check.due("DOT " + i + ", " + j + " of '" + text + "'", world.dot(i, j), due[j + 32][i + 32]);
                    }
                }
            }
            Check.line(world, "show xcor show ycor show dot");
            world.run(Check.ALL);
            Exact atX = at(world, 0, 0);
            Exact atY = at(world, 0, 1);
            int i = atX.nearest();
            int j = atY.nearest();
            int colour = i < -32 || i > 31 || j < -32 || j > 31 ? 0 : due[j + 32][i + 32];
            Check.due("xcor, ycor and dot", Check.out(world), atX.floor() + "\n" + atY.floor() + "\n" + colour + "\n");
        }
    }

    private static void draw(int[][] dots, int[] start, int[] goal, int heading, int colour) {
        boolean columns = heading % 6 >= 2 && heading % 6 <= 4;
        int lead = columns ? 0 : 2;
        Exact x0 = new Exact(start[lead], start[lead + 1], 2);
        Exact x1 = new Exact(goal[lead], goal[lead + 1], 2);
        Exact y0 = new Exact(start[2 - lead], start[3 - lead], 2);
        Exact y1 = new Exact(goal[2 - lead], goal[3 - lead], 2);
        int from = Math.min(x0.nearest(), x1.nearest());
        int to = Math.max(x0.nearest(), x1.nearest());
        for (int i = from; i <= to; i++) {
            Exact a = x0.minus(new Exact(i, 0, 1));
            Exact b = x1.minus(new Exact(i, 0, 1));
            Exact y;
            if (a.sign() * b.sign() > 0 || x1.minus(x0).sign() == 0) {
                int nearer = a.times(a).minus(b.times(b)).sign();
                y = nearer <= 0 ? y0 : y1;
            } else {
                y = y0.minus(a.times(y1.minus(y0)).over(x1.minus(x0)));
            }
            int j = y.nearest();
            if (i >= -32 && i < 32 && j >= -32 && j < 32) {
                dots[columns ? j + 32 : i + 32][columns ? i + 32 : j + 32] = colour;
            }
        }
    }

    private static void same() {
        Check.prints("show same 0 7 show same 7 0 show same 3 3", "true\ntrue\ntrue\n");
        Check.prints("seth 30 fd 1 show same 0 1 tell 1 seth 30 fd 1 show same 0 1 pu setpen 3 rt 60 show same 1 0", "false\ntrue\ntrue\n");
        // Two ways to one place, and places that differ in one part alone.
        Check.prints("seth 30 fd 5 seth 150 fd 5 tell 1 seth 90 fd 5 show same 0 1", "true\n");
        for (int heading = 0; heading < 12; heading++) {
            Check.prints("seth " + 30 * heading + " fd 1 show same 0 1 show same 1 0", "false\nfalse\n");
        }
        Check.prints("seth 30 fd 2 tell 1 seth 90 fd 1 show same 0 1 tell 2 seth 150 fd 2 show same 0 2 show same 1 2", "false\nfalse\nfalse\n");
        for (String inputs : new String[] {"8 0", "0 8", "-1 0", "0 -1", "8 8", "\"a 0", "0 \"a", "[] 0", "0 []", "1000000000 -1000000000"}) {
            Check.refuses("show same " + inputs, 3, 1);
        }
    }

    private static void sidesOf(TurtleWorld world) {
        for (int axis = 0; axis < 2; axis++) {
            Exact at = at(world, 0, axis);
            int floor = at.floor();
            for (int v = floor - 2; v <= floor + 2; v++) {
                Check.due("side(0, " + axis + ", " + v + ")", world.side(0, axis, v), at.minus(new Exact(v, 0, 1)).sign());
            }
            Check.due("side of the least", world.side(0, axis, Integer.MIN_VALUE), 1);
            Check.due("side of the greatest", world.side(0, axis, Integer.MAX_VALUE), -1);
        }
    }

    private static void sidesAreExact() {
        TurtleWorld world = new TurtleWorld(1);
        for (int v = -1; v <= 1; v++) {
            Check.due("side(0, 0, " + v + ") at first", world.side(0, 0, v), -v);
            Check.due("side(7, 1, " + v + ") at first", world.side(7, 1, v), -v);
        }
        sidesOf(Check.ran("", NEAR));
        sidesOf(Check.ran("", NEAR + "bk 1"));
        Random random = new Random(5);
        for (int trial = 0; trial < 40; trial++) {
            StringBuilder text = new StringBuilder("pu ");
            for (int k = 0; k < 4; k++) {
                text.append("seth ").append(30 * random.nextInt(12)).append(" repeat ").append(random.nextInt(160));
                text.append(" [fd ").append(random.nextInt(2001) - 1000).append("] ");
            }
            world = Check.ran("", text.toString());
            Check.due("no ERROR in " + text, world.look(1), 0);
            sidesOf(world);
        }
    }

    private static void noSuchPlaces() {
        TurtleWorld world = Check.ran("", "tell 7 fd 1");
        int least = Integer.MIN_VALUE;
        int greatest = Integer.MAX_VALUE;
        for (int turtle : new int[] {0, 7, -1, 8, least, greatest}) {
            for (int axis : new int[] {0, 1, -1, 2, least, greatest}) {
                for (int part : new int[] {0, 1, -1, 2, least, greatest}) {
                    boolean there = turtle >= 0 && turtle < 8 && (axis == 0 || axis == 1);
                    String call = "(" + turtle + ", " + axis + ", " + part + ")";
                    Check.due("place" + call + " throws", placeThrows(world, turtle, axis, part), !there || part != 0 && part != 1);
                    Check.due("side" + call + " throws", sideThrows(world, turtle, axis, part), !there);
                }
            }
        }
        Check.due("place(7, 1, 0)", world.place(7, 1, 0), 2);
    }

    private static boolean placeThrows(TurtleWorld world, int turtle, int axis, int part) {
        try {
            world.place(turtle, axis, part);
            return false;
        } catch (NoSuchElementException e) {
            return true;
        }
    }

    private static boolean sideThrows(TurtleWorld world, int turtle, int axis, int v) {
        try {
            world.side(turtle, axis, v);
            return false;
        } catch (NoSuchElementException e) {
            return true;
        }
    }

    private static void turtleAnswers() {
        TurtleWorld world = Check.ran("", "tell 7 seth 330 setpen 7 pu");
        Check.due("HEADING", world.turtle(7, 0), 330);
        Check.due("PEN", world.turtle(7, 1), 7);
        Check.due("DOWN", world.turtle(7, 2), 0);
        Check.due("of turtle 0", world.turtle(0, 2), 1);
        int[][] none = {{8, 0}, {-1, 0}, {0, 3}, {0, -1}, {7, 3}, {8, 3}, {Integer.MIN_VALUE, 0}, {Integer.MAX_VALUE, 1}, {0, Integer.MIN_VALUE},
            {0, Integer.MAX_VALUE}};
        for (int[] k : none) {
            Check.due("turtle(" + k[0] + ", " + k[1] + ")", world.turtle(k[0], k[1]), -1);
        }
    }

    private static void dotAnswers() {
        TurtleWorld world = Check.ran("", "setpen 1 place -32 -32 fd 0 setpen 2 place 31 -32 fd 0 setpen 3 place -32 31 fd 0 setpen 4 place 31 31 fd 0");
        int[] edges = {-33, -32, 31, 32, Integer.MIN_VALUE, Integer.MAX_VALUE};
        for (int i : edges) {
            for (int j : edges) {
                boolean beyond = i != -32 && i != 31 || j != -32 && j != 31;
                int due = beyond ? -1 : (i == -32 ? 1 : 2) + (j == -32 ? 0 : 2);
                Check.due("dot(" + i + ", " + j + ")", world.dot(i, j), due);
            }
        }
        for (int i = -33; i <= 32; i++) {
            Check.due("dot(" + i + ", 0)", world.dot(i, 0), i < -32 || i > 31 ? -1 : 0);
            Check.due("dot(0, " + i + ")", world.dot(0, i), i < -32 || i > 31 ? -1 : 0);
        }
    }

    private static int sumOf(TurtleWorld world) {
        BigInteger sum = BigInteger.ZERO;
        BigInteger base = BigInteger.valueOf(31);
        for (int k = 0; k < 64 * 64; k++) {
            sum = sum.multiply(base).add(BigInteger.valueOf(world.dot(k % 64 - 32, k / 64 - 32)));
        }
        for (int turtle = 0; turtle < 8; turtle++) {
            int[] parts = {world.place(turtle, 0, 0), world.place(turtle, 0, 1), world.place(turtle, 1, 0), world.place(turtle, 1, 1),
                world.turtle(turtle, 0) / 30, world.turtle(turtle, 1), world.turtle(turtle, 2)};
            for (int part : parts) {
                sum = sum.multiply(base).add(BigInteger.valueOf(part));
            }
        }
        return sum.intValue();
    }

    private static void sums() {
        Check.due("the sum at first", new TurtleWorld(1).sum(), sumOf(new TurtleWorld(1)));
        TreeSet<Integer> seen = new TreeSet<>();
        String[] texts = {"pu", "rt 30", "setpen 2", "pu fd 1", "fd 1", "fd 0", "pu seth 30 fd 1", "pu bk 1", "tell 7 pu", "tell 3 setpen 0",
            "place 31 31 setpen 7 fd 0", "place -32 -32 setpen 7 fd 0", "place 31 -32 setpen 7 fd 0", "place -300 7 seth 90 fd 600"};
        for (String text : texts) {
            TurtleWorld world = Check.ran("", text);
            Check.due("the sum behind '" + text + "'", world.sum(), sumOf(world));
            Check.due("the sum behind '" + text + "' is another", seen.add(world.sum()), true);
        }
        Check.due("neither tell nor print counts", Check.ran("", "tell 3 print 5").sum(), new TurtleWorld(1).sum());
    }
}
