/** The edges of promise 11: done. */
public final class Edges11DoneTest {
    public static void main(String[] args) {
        leastAndGreatestJobs();
        fromNoneToMoreThanThirtyTwo();
        lowerPortIsEarlierInOneTick();
        oneTickAcrossTheThirtySecond();
        noneWhenThereIsNone();
        Check.end();
    }

    /** "64 times its port, 8 times its master, and its source": the least is 0, not NONE */
    private static void leastAndGreatestJobs() {
        for (int p = 0; p < 4; p++) {
            for (int key : new int[] {0, 7, 8, 15, 16, 23}) {
                MessageCrossbar x = new MessageCrossbar();
                Check.get(x, key >> 3, key & 7, Check.LAST_PLACES[p]);
                x.tick(20);
                Check.due("done(0)", x.done(0), 64 * p + key);
                Check.due("done(1)", x.done(1), -1);
            }
        }
    }

    private static int key(int n) {
        return 8 * (n % 3) + n * 5 % 8;
    }

    private static MessageCrossbar afterJobs(int jobs) {
        MessageCrossbar x = new MessageCrossbar();
        for (int n = 0; n < jobs; n++) {
            Check.get(x, key(n) >> 3, key(n) & 7, 640);
            x.tick(5);
            x.take(key(n) >> 3);
        }
        return x;
    }

    /** "The job done k ago (0 the latest one) of the latest 32": a line that wraps around and around */
    private static void fromNoneToMoreThanThirtyTwo() {
        for (int jobs = 0; jobs <= 100; jobs++) {
            MessageCrossbar x = afterJobs(jobs);
            for (int k = -1; k <= 34; k++) {
                boolean there = k >= 0 && k < 32 && k < jobs;
                Check.due("done(" + k + ") of " + jobs, x.done(k), there ? 192 + key(jobs - 1 - k) : -1);
            }
            Check.due("jobs done", x.count(3), jobs);
        }
    }

    /** "of all ports (in one tick the lower port is earlier)" */
    private static void lowerPortIsEarlierInOneTick() {
        int[] delays = {2, 1, 3, 1};
        for (int first = 0; first < 4; first++) {
            for (int second = first + 1; second < 4; second++) {
                MessageCrossbar x = new MessageCrossbar();
                int late = delays[first] - delays[second];
                // The one of the longer delay is told so much earlier that both are done in one tick.
                Check.get(x, 1, 2, Check.PLACES[late >= 0 ? first : second]);
                x.tick(Math.abs(late));
                Check.get(x, 2, 1, Check.PLACES[late >= 0 ? second : first]);
                x.tick(2 + Math.max(delays[first], delays[second]) - Math.abs(late));
                Check.due("done ahead of that tick", x.count(3), 0);
                x.tick(1);
                Check.due("done in that tick", x.count(3), 2);
                Check.due("done(0), the higher port", x.done(0), 64 * second + (late >= 0 ? 17 : 10));
                Check.due("done(1), the lower port", x.done(1), 64 * first + (late >= 0 ? 10 : 17));
            }
        }
    }

    /** The same where the line of 32 wraps around within one tick. */
    private static void oneTickAcrossTheThirtySecond() {
        for (int jobs = 30; jobs <= 34; jobs++) {
            MessageCrossbar x = afterJobs(jobs);
            Check.get(x, 0, 4, 640);
            Check.get(x, 1, 6, 256);
            x.tick(4);
            Check.due("jobs done", x.count(3), jobs + 2);
            Check.due("done(0)", x.done(0), 192 + 4);
            Check.due("done(1)", x.done(1), 64 + 14);
            for (int k = 2; k < 32; k++) {
                Check.due("done(" + k + ")", x.done(k), k < jobs + 2 ? 192 + key(jobs + 1 - k) : -1);
            }
            Check.due("done(32)", x.done(32), -1);
        }
    }

    /** "NONE when there is none." */
    private static void noneWhenThereIsNone() {
        for (int jobs : new int[] {0, 1, 31, 32, 33, 64}) {
            MessageCrossbar x = afterJobs(jobs);
            String before = Check.seen(x);
            for (int k : new int[] {-1, -2, -32, 32, 33, 64, 1 << 16, Integer.MIN_VALUE, Integer.MAX_VALUE}) {
                Check.due("done(" + k + ") of " + jobs, x.done(k), -1);
            }
            Check.due("what is seen", Check.seen(x), before);
        }
    }
}
