/** The edges of promise 9: master. */
public final class Edges09MasterTest {
    private static final int[] FAR = {-2, 8, 16, Integer.MIN_VALUE, Integer.MAX_VALUE};

    public static void main(String[] args) {
        waitingFromNoneToEight();
        boxFromNoneToFour();
        bitsOfTheLeastAndGreatestSource();
        whetherItAccepts();
        noSuchMaster();
        anotherWhat();
        Check.end();
    }

    /** "0 requests that wait" */
    private static void waitingFromNoneToEight() {
        for (int m = 0; m < 3; m++) {
            MessageCrossbar x = new MessageCrossbar();
            for (int n = 0; n < 8; n++) {
                Check.due("waiting", x.master(m, 0), n);
                Check.get(x, m, n, 0);
            }
            Check.due("waiting, all sources", x.master(m, 0), 8);
            Check.get(x, m, 0, 0);
            Check.due("waiting after a refused one", x.master(m, 0), 8);
            x.tick(1);
            Check.due("waiting when one has left", x.master(m, 0), 7);
            x.tick(200);
            Check.due("waiting when all have left", x.master(m, 0), 0);
        }
    }

    /** "1 answers in its box" */
    private static void boxFromNoneToFour() {
        for (int m = 0; m < 3; m++) {
            for (int told = 0; told <= 5; told++) {
                MessageCrossbar x = new MessageCrossbar();
                for (int source = 0; source < told; source++) {
                    Check.get(x, m, source, 512);
                }
                x.tick(100);
                Check.due("in the box of " + told, x.master(m, 1), Math.min(told, 4));
                Check.due("in another's", x.master((m + 1) % 3, 1), 0);
            }
        }
    }

    /** "2 sources in flight, as bits" */
    private static void bitsOfTheLeastAndGreatestSource() {
        for (int m = 0; m < 3; m++) {
            MessageCrossbar x = new MessageCrossbar();
            int bits = 0;
            for (int source : new int[] {0, 7, 3, 4, 1, 6, 2, 5}) {
                Check.due("bits", x.master(m, 2), bits);
                Check.get(x, m, source, 0);
                bits += 1 << source;
            }
            Check.due("bits of all", x.master(m, 2), 255);
            Check.due("bits of another", x.master((m + 1) % 3, 2), 0);
            for (int source : new int[] {0, 7, 3, 4, 1, 6, 2, 5}) {
                x.tick(100);
                Check.due("take", x.take(m), source);
                bits -= 1 << source;
                Check.due("bits after a take", x.master(m, 2), bits);
            }
        }
    }

    /** "3 whether it accepts": 1 or 0 */
    private static void whetherItAccepts() {
        for (int m = 0; m < 3; m++) {
            MessageCrossbar x = new MessageCrossbar();
            Check.due("at first", x.master(m, 3), 1);
            x.accept(m, false);
            Check.due("after no", x.master(m, 3), 0);
            x.accept(m, true);
            Check.due("after yes", x.master(m, 3), 1);
        }
    }

    /** "IndexOutOfBoundsException when there is no such master": whatever the what */
    private static void noSuchMaster() {
        MessageCrossbar x = Check.busy();
        String before = Check.seen(x);
        for (int what = -1; what <= 4; what++) {
            int asked = what;
            Check.refused("master(-1, " + what + ")", Check.INDEX, () -> x.master(-1, asked));
            Check.refused("master(3, " + what + ")", Check.INDEX, () -> x.master(3, asked));
            for (int m : FAR) {
                Check.refused("master(" + m + ", " + what + ")", Check.INDEX, () -> x.master(m, asked));
            }
        }
        for (int far : FAR) {
            Check.refused("master and what " + far, Check.INDEX, () -> x.master(far, far));
        }
        Check.due("what is seen", Check.seen(x), before);
    }

    /** "else IllegalArgumentException for another what" */
    private static void anotherWhat() {
        MessageCrossbar x = Check.busy();
        String before = Check.seen(x);
        for (int m = 0; m < 3; m++) {
            int asked = m;
            Check.refused("master(" + m + ", -1)", Check.ARGUMENT, () -> x.master(asked, -1));
            Check.refused("master(" + m + ", 4)", Check.ARGUMENT, () -> x.master(asked, 4));
            for (int what : FAR) {
                Check.refused("master(" + m + ", " + what + ")", Check.ARGUMENT, () -> x.master(asked, what));
            }
        }
        Check.due("what is seen", Check.seen(x), before);
    }
}
