/** The edges of promise 5: take. */
public final class Edges05TakeTest {
    public static void main(String[] args) {
        leastAndGreatestAnswers();
        noneWithoutOne();
        noneWhileItIsInThePort();
        firstOfFour();
        noneChangesNothing();
        noSuchMaster();
        Check.end();
    }

    /** "its source, 8 times its sort, and 32 when it is denied" */
    private static void leastAndGreatestAnswers() {
        int[][] rows = {
            {0, 0, 0, 0}, {7, 0, 0, 7}, {0, 1, 255, 8}, {7, 1, 256, 15}, {0, 2, 511, 16}, {7, 2, 639, 23},
            {0, 0, 640, 32}, {7, 0, 1023, 39}, {0, 1, 640, 40}, {7, 1, 1023, 47}, {0, 2, 640, 48},
            {7, 2, 1023, 55},
        };
        for (int[] row : rows) {
            for (int m = 0; m < 3; m++) {
                MessageCrossbar x = new MessageCrossbar();
                x.request(m, row[0], row[1], 0, row[2], -1, 255);
                x.tick(20);
                Check.due("take of source " + row[0] + ", sort " + row[1] + " at " + row[2], x.take(m), row[3]);
            }
        }
    }

    /** "NONE without one." */
    private static void noneWithoutOne() {
        MessageCrossbar x = new MessageCrossbar();
        for (int m = 0; m < 3; m++) {
            Check.due("take of a new one", x.take(m), -1);
            Check.get(x, m, 0, Check.PLACES[m]);
        }
        x.tick(20);
        for (int m = 0; m < 3; m++) {
            Check.due("take", x.take(m), 0);
            Check.due("take again", x.take(m), -1);
            x.tick(20);
            Check.due("take later", x.take(m), -1);
        }
        Check.due("taken", x.count(5), 3);
    }

    /** The same: the last tick before it comes into the box, and the first one with it there. */
    private static void noneWhileItIsInThePort() {
        MessageCrossbar x = new MessageCrossbar();
        Check.get(x, 1, 6, 256);
        for (int t = 1; t <= 4; t++) {
            x.tick(1);
            Check.due("take, tick " + t, x.take(1), -1);
        }
        Check.due("in the port", x.port(1, 2), 1);
        x.tick(1);
        Check.due("take of another master", x.take(0), -1);
        Check.due("take, tick 5", x.take(1), 6);
    }

    /** "The first answer in a master's box" */
    private static void firstOfFour() {
        MessageCrossbar x = new MessageCrossbar();
        for (int source : new int[] {7, 0, 6, 1}) {
            Check.get(x, 2, source, 512);
        }
        x.tick(100);
        int left = 4;
        for (int source : new int[] {7, 0, 6, 1}) {
            Check.due("in the box", x.master(2, 1), left);
            Check.due("take", x.take(2), source);
            left--;
        }
        Check.due("in the box at last", x.master(2, 1), 0);
        Check.due("take of a fifth", x.take(2), -1);
    }

    /** A take that finds none changes nothing. */
    private static void noneChangesNothing() {
        MessageCrossbar x = Check.busy();
        Check.due("in the box of one that does not accept", x.master(1, 1), 0);
        String before = Check.seen(x);
        Check.due("take(1)", x.take(1), -1);
        Check.due("what is seen", Check.seen(x), before);
    }

    /** "IllegalArgumentException when there is no such master." */
    private static void noSuchMaster() {
        MessageCrossbar x = Check.busy();
        String before = Check.seen(x);
        for (int m : new int[] {-1, 3, 4, 8, Integer.MIN_VALUE, Integer.MAX_VALUE}) {
            Check.refused("take(" + m + ")", Check.ARGUMENT, () -> x.take(m));
        }
        Check.due("what is seen", Check.seen(x), before);
        Check.due("take(0)", x.take(0), 3);
        Check.due("take(2)", x.take(2), 8);
    }
}
