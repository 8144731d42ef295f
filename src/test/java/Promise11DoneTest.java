/** Promise 11: the latest 32 jobs done. */
public final class Promise11DoneTest {
    public static void main(String[] args) {
        portMasterAndSource();
        lowerPortIsEarlierInOneTick();
        latestThirtyTwo();
        Check.end();
    }

    private static void portMasterAndSource() {
        int[] addresses = {0, 256, 512, 640};
        for (int p = 0; p < 4; p++) {
            for (int m = 0; m < 3; m++) {
                MessageCrossbar x = new MessageCrossbar();
                Check.get(x, m, 5, addresses[p]);
                x.tick(2);
                Check.due("done(0) before the job is done", x.done(0), -1);
                x.tick(20);
                Check.due("done(0)", x.done(0), 64 * p + 8 * m + 5);
                Check.due("done(1)", x.done(1), -1);
            }
        }
    }

    private static void lowerPortIsEarlierInOneTick() {
        MessageCrossbar x = new MessageCrossbar();
        Check.get(x, 0, 1, 640);
        Check.get(x, 1, 2, 256);
        x.tick(4);
        Check.due("jobs done in tick 4", x.count(3), 2);
        Check.due("done(0)", x.done(0), 64 * 3 + 1);
        Check.due("done(1)", x.done(1), 64 + 8 + 2);
        Check.due("done(2)", x.done(2), -1);
    }

    private static void latestThirtyTwo() {
        MessageCrossbar x = new MessageCrossbar();
        int[] told = new int[70];
        for (int n = 0; n < 70; n++) {
            int m = n % 3;
            int source = n * 5 % 8;
            told[n] = 64 + 8 * m + source;
            Check.get(x, m, source, 256);
            x.tick(5);
            Check.due("take", x.take(m), source);
            if (n == 31 || n == 32 || n == 69) {
                for (int k = 0; k < 32; k++) {
                    Check.due("done(" + k + ") of " + (n + 1), x.done(k), told[n - k]);
                }
                Check.due("done(32) of " + (n + 1), x.done(32), -1);
            }
            if (n == 30) {
                Check.due("done(30) of 31", x.done(30), told[0]);
                Check.due("done(31) of 31", x.done(31), -1);
            }
        }
        for (int k : new int[] {-1, 33, 64, Integer.MIN_VALUE, Integer.MAX_VALUE}) {
            Check.due("done(" + k + ")", x.done(k), -1);
        }
    }
}
