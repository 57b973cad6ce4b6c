import java.math.BigInteger;
import java.util.NoSuchElementException;
import java.util.TreeSet;

/** Promises 11 to 14 and 20, and the WORDS of the turtles: places, sides, turtles, dots, the sum. */
public final class TurtlesTest {
    public static void main(String[] args) {
        atFirst();
        steps();
        sides();
        noSuch();
        turns();
        pens();
        dots();
        linesAgree();
        told();
        wordsThatTell();
        sums();
        Check.finish();
    }

    private static void place(TurtleWorld world, int turtle, int px, int qx, int py, int qy) {
        Check.due("px", world.place(turtle, 0, 0), px);
        Check.due("qx", world.place(turtle, 0, 1), qx);
        Check.due("py", world.place(turtle, 1, 0), py);
        Check.due("qy", world.place(turtle, 1, 1), qy);
    }

    private static void atFirst() {
        TurtleWorld world = new TurtleWorld(1);
        for (int turtle = 0; turtle < 8; turtle++) {
            place(world, turtle, 0, 0, 0, 0);
            Check.due("HEADING", world.turtle(turtle, 0), 0);
            Check.due("PEN", world.turtle(turtle, 1), 1);
            Check.due("DOWN", world.turtle(turtle, 2), 1);
        }
    }

    private static void steps() {
        int[][] due = {{0, 0, 6, 0}, {3, 0, 0, 3}, {0, 3, 3, 0}, {6, 0, 0, 0}, {0, 3, -3, 0}, {3, 0, 0, -3}};
        for (int heading = 0; heading < 12; heading++) {
            int sign = heading < 6 ? 1 : -1;
            int[] parts = due[heading % 6];
            TurtleWorld world = Check.ran("", "seth " + 30 * heading + " fd 3");
            place(world, 0, sign * parts[0], sign * parts[1], sign * parts[2], sign * parts[3]);
            world = Check.ran("", "seth " + 30 * heading + " bk 3");
            place(world, 0, -sign * parts[0], -sign * parts[1], -sign * parts[2], -sign * parts[3]);
        }
        Check.fails("fd 1001", 3, 1);
        Check.fails("bk -1001", 3, 1);
        Check.fails("fd \"a", 3, 1);
        TurtleWorld world = Check.ran("", "repeat 501 [fd 1000]");
        Check.due("too far", world.look(1), 7);
        place(world, 0, 0, 0, 1000000, 0);
        world = Check.ran("", "rt 30 repeat 1001 [bk 1000]");
        Check.due("too far", world.look(1), 7);
        place(world, 0, -1000000, 0, 0, -1000000);
        place(Check.ran("", "rt 30 fd 3 place 30000 -30000"), 0, 60000, 0, -60000, 0);
        Check.fails("place 30001 0", 3, 1);
        Check.fails("place 0 -30001", 3, 1);
        Check.fails("place 0 [1]", 3, 1);
        world = Check.ran("", "rt 30 fd 3 home");
        place(world, 0, 0, 0, 0, 0);
        Check.due("HEADING behind home", world.turtle(0, 0), 0);
    }

    private static void sides() {
        TurtleWorld world = Check.ran("", "rt 30 fd 1000"); // x is 500, y is 866.02..
        Check.due("x and 499", world.side(0, 0, 499), 1);
        Check.due("x and 500", world.side(0, 0, 500), 0);
        Check.due("x and 501", world.side(0, 0, 501), -1);
        Check.due("y and 866", world.side(0, 1, 866), 1);
        Check.due("y and 867", world.side(0, 1, 867), -1);
        Check.due("y and the least", world.side(0, 1, Integer.MIN_VALUE), 1);
        Check.due("y and the greatest", world.side(0, 1, Integer.MAX_VALUE), -1);
        Check.due("x and the least", world.side(0, 0, Integer.MIN_VALUE), 1);
        Check.due("x and the greatest", world.side(0, 0, Integer.MAX_VALUE), -1);
        // 826806 r is above 1432070 by less than 3 millionths.
        BigInteger q = BigInteger.valueOf(826806);
        Check.due("floor(826806 r)", q.multiply(q).multiply(BigInteger.valueOf(3)).sqrt().longValue(), 1432070);
        world = Check.ran("", "rt 30 repeat 826 [fd 1000] fd 806");
        Check.due("y and its floor", world.side(0, 1, 716035), 1);
        Check.due("y and its ceiling", world.side(0, 1, 716036), -1);
        world = Check.ran("", "rt 210 repeat 826 [fd 1000] fd 806");
        Check.due("-y and its floor", world.side(0, 1, -716036), 1);
        Check.due("-y and its ceiling", world.side(0, 1, -716035), -1);
    }

    private static void noSuch() {
        TurtleWorld world = new TurtleWorld(1);
        int[][] places = {{-1, 0, 0}, {8, 0, 0}, {0, -1, 0}, {0, 2, 0}, {0, 0, -1}, {0, 0, 2}};
        for (int[] p : places) {
            boolean thrown = false;
            try {
                world.place(p[0], p[1], p[2]);
            } catch (NoSuchElementException e) {
                thrown = true;
            }
            Check.due("place(" + p[0] + ", " + p[1] + ", " + p[2] + ") throws", thrown, true);
        }
        int[][] sides = {{-1, 0}, {8, 0}, {0, -1}, {0, 2}};
        for (int[] s : sides) {
            boolean thrown = false;
            try {
                world.side(s[0], s[1], 0);
            } catch (NoSuchElementException e) {
                thrown = true;
            }
            Check.due("side(" + s[0] + ", " + s[1] + ", 0) throws", thrown, true);
        }
        Check.due("turtle(-1, 0)", world.turtle(-1, 0), -1);
        Check.due("turtle(8, 0)", world.turtle(8, 0), -1);
        Check.due("turtle(0, 3)", world.turtle(0, 3), -1);
        Check.due("turtle(0, -1)", world.turtle(0, -1), -1);
        Check.due("dot(32, 0)", world.dot(32, 0), -1);
        Check.due("dot(-33, 0)", world.dot(-33, 0), -1);
        Check.due("dot(0, 32)", world.dot(0, 32), -1);
        Check.due("dot(0, -33)", world.dot(0, -33), -1);
        Check.due("dot(-32, 31)", world.dot(-32, 31), 0);
    }

    private static void heading(String text, int due) {
        Check.due("the HEADING behind " + text, Check.ran("", text).turtle(0, 0), due);
    }

    private static void turns() {
        heading("rt 90", 90);
        heading("lt 30", 330);
        heading("rt 330 rt 60", 30);
        heading("rt 90 seth -30", 330);
        heading("rt -360000030", 330);
        heading("lt -999999990", 30 * (33333333 % 12));
        heading("seth 720", 0);
        Check.fails("rt 15", 3, 1);
        Check.fails("lt 1", 3, 1);
        Check.fails("seth -29", 3, 1);
        Check.fails("rt \"a", 3, 1);
    }

    private static void pens() {
        TurtleWorld world = Check.ran("", "setpen 7 pu fd 3");
        Check.due("PEN", world.turtle(0, 1), 7);
        Check.due("DOWN", world.turtle(0, 2), 0);
        Check.due("no LINE", world.dot(0, 1), 0);
        world = Check.ran("", "setpen 5 fd 3 pu fd 3 pd setpen 0 bk 5");
        Check.due("a DOT below", world.dot(0, 0), 5);
        Check.due("a DOT that was drawn over", world.dot(0, 2), 0);
        Check.due("DOWN", world.turtle(0, 2), 1);
        Check.fails("setpen 8", 3, 1);
        Check.fails("setpen -1", 3, 1);
    }

    /** All DOTS that are not 0, as i,j in rows. */
    private static String drawn(TurtleWorld world) {
        StringBuilder text = new StringBuilder();
        for (int j = -32; j < 32; j++) {
            for (int i = -32; i < 32; i++) {
                if (world.dot(i, j) > 0) {
                    text.append(i).append(',').append(j).append(' ');
                }
            }
        }
        return text.toString();
    }

    private static void draws(String text, String due) {
        Check.due("DOTS of " + text, drawn(Check.ran("", text)), due);
    }

    private static void dots() {
        draws("fd 2", "0,0 0,1 0,2 ");
        draws("bk 1", "0,-1 0,0 ");
        draws("rt 90 fd 2", "0,0 1,0 2,0 ");
        draws("fd 0", "0,0 ");
        draws("pu fd 2", "");
        draws("rt 30 fd 2", "0,0 1,1 1,2 "); // y ends at 1.73: in row 2 x is that of the end, 1
        draws("rt 60 fd 2", "0,0 1,1 2,1 ");
        draws("rt 120 fd 2", "1,-1 2,-1 0,0 ");
        draws("lt 30 fd 2", "0,0 -1,1 -1,2 ");
        draws("rt 60 fd 1 clean", "");
        draws("place 31 31 rt 90 fd 5", "31,31 ");
        draws("place 40 3 rt 90 fd 5", "");
        draws("place 3 4 home", "");
        TurtleWorld world = Check.ran("", "rt 90 place -1000 7 fd 1000 fd 1000");
        Check.due("a whole row", drawn(world).split(" ").length, 64);
        Check.due("its first DOT", world.dot(-32, 7), 1);
        Check.due("its last DOT", world.dot(31, 7), 1);
        Check.due("beside it", world.dot(0, 6), 0);
    }

    /** A second way to the DOTS: with doubles, which are exact enough where no place lies near a half. */
    private static void linesAgree() {
        double r = Math.sqrt(3);
        for (int heading = 0; heading < 12; heading++) {
            if (heading % 3 == 0) {
                continue;
            }
            double dx = Math.sin(Math.PI * heading / 6);
            double dy = Math.cos(Math.PI * heading / 6);
            TurtleWorld world = Check.ran("", "rt 30 pu fd 1 pd seth " + 30 * heading + " fd 41");
            double x = 0.5;
            double y = r / 2;
            TreeSet<String> due = new TreeSet<>();
            boolean columns = Math.abs(dx) > Math.abs(dy);
            double lead = columns ? x : y;
            double end = lead + 41 * (columns ? dx : dy);
            for (long i = Math.round(Math.min(lead, end)); i <= Math.round(Math.max(lead, end)); i++) {
                double at = Math.max(Math.min(lead, end), Math.min(Math.max(lead, end), i));
                double n = (at - lead) / (columns ? dx : dy);
                long i2 = columns ? i : (long) Math.floor(x + n * dx + 0.5);
                long j2 = columns ? (long) Math.floor(y + n * dy + 0.5) : i;
                if (i2 >= -32 && i2 < 32 && j2 >= -32 && j2 < 32) {
                    due.add(i2 + "," + j2);
                }
            }
            TreeSet<String> got = new TreeSet<>(java.util.List.of(drawn(world).trim().split(" ")));
            Check.due("DOTS in HEADING " + heading, got.toString(), due.toString());
        }
    }

    private static void told() {
        TurtleWorld world = Check.ran("", "tell 3 fd 5 setpen 4");
        Check.due("TOLD", world.look(7), 3);
        place(world, 0, 0, 0, 0, 0);
        place(world, 3, 0, 0, 10, 0);
        Check.due("PEN 3", world.turtle(3, 1), 4);
        Check.due("PEN 0", world.turtle(0, 1), 1);
        Check.line(world, "print who");
        world.run(Check.ALL);
        Check.due("TOLD stays", Check.out(world), "3\n");
        Check.fails("tell 8", 3, 1);
        Check.fails("tell -1", 3, 1);
    }

    private static void wordsThatTell() {
        Check.prints("rt 90 print heading print pen setpen 6 print pen print who", "90\n1\n6\n0\n");
        Check.prints("rt 30 fd 3 print xcor print ycor", "1\n2\n"); // 1.5 and 2.59..
        Check.prints("rt 30 bk 3 print xcor print ycor", "-2\n-3\n");
        Check.prints("place -7 9 print xcor print ycor", "-7\n9\n");
        Check.prints("setpen 3 fd 2 bk 1 print dot place 5 5 print dot place 32 0 print dot place 0 -33 print dot", "3\n0\n0\n0\n");
        Check.prints("print same 0 1 fd 1 print same 0 1 print same 1 7 tell 1 fd 1 print same 1 0", "true\nfalse\ntrue\ntrue\n");
        Check.fails("print same 0 8", 3, 1);
        Check.fails("print same -1 0", 3, 1);
    }

    private static void sums() {
        TurtleWorld world = Check.ran("", "setpen 3 rt 60 fd 20 tell 5 rt 330 pu bk 7");
        int due = 0;
        for (int j = -32; j < 32; j++) {
            for (int i = -32; i < 32; i++) {
                due = 31 * due + world.dot(i, j);
            }
        }
        for (int turtle = 0; turtle < 8; turtle++) {
            for (int k = 0; k < 4; k++) {
                due = 31 * due + world.place(turtle, k / 2, k % 2);
            }
            due = 31 * due + world.turtle(turtle, 0) / 30;
            due = 31 * due + world.turtle(turtle, 1);
            due = 31 * due + world.turtle(turtle, 2);
        }
        Check.due("sum", world.sum(), due);
        Check.due("the sum at first", new TurtleWorld(9).sum() != due, true);
    }
}
