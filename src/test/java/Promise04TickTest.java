/** Promise 4: n ticks, and how one tick goes. */
public final class Promise04TickTest {
    private static final int[] PLACES = {0, 256, 512, 640};

    public static void main(String[] args) {
        answersTicksInAll();
        wrongInputs();
        jobsTakeDelayAndSizeByWidth();
        mastersTakeTurns();
        turnGoesOnBehindTheLatest();
        portsTakeTurns();
        masterGivesToRisingPortsInOneTick();
        portAnswersRisingMastersInOneTick();
        portHoldsTwoRequestsAndFourIds();
        boxHoldsFour();
        nextJobBeginsInTheTickOfTheLast();
        firstRequestHoldsUpTheOthers();
        manyTicksAreAsOneByOne();
        Check.end();
    }

    private static void answersTicksInAll() {
        MessageCrossbar x = new MessageCrossbar();
        Check.due("tick(0)", x.tick(0), 0);
        Check.due("tick(1)", x.tick(1), 1);
        Check.due("tick(10000)", x.tick(10000), 10001);
        Check.due("tick(0) again", x.tick(0), 10001);
        Check.get(x, 0, 0, 0);
        Check.due("tick(9999)", x.tick(9999), 20000);
        Check.due("tick(7)", x.tick(7), 20007);
    }

    private static void wrongInputs() {
        MessageCrossbar x = new MessageCrossbar();
        Check.get(x, 0, 0, 0);
        for (int n : new int[] {-1, 10001, Integer.MIN_VALUE, Integer.MAX_VALUE}) {
            Check.refused("tick(" + n + ")", Check.ARGUMENT, () -> x.tick(n));
        }
        Check.due("count(0)", x.count(0), 0);
        Check.due("master(0, 0)", x.master(0, 0), 1);
    }

    private static void jobsTakeDelayAndSizeByWidth() {
        int[][] ticks = {{3, 3, 3, 4}, {2, 3, 5, 9}, {4, 4, 4, 4}, {2, 2, 2, 2}};
        for (int p = 0; p < 4; p++) {
            for (int z = 0; z < 4; z++) {
                for (int sort = 0; sort < 3; sort++) {
                    MessageCrossbar x = new MessageCrossbar();
                    x.request(0, 0, sort, z, PLACES[p], 0, 0);
                    x.tick(2);
                    for (int left = ticks[p][z]; left > 0; left--) {
                        Check.due("left of size 2^" + z + " in port " + p, x.port(p, 1), left);
                        Check.due("done before its time", x.port(p, 4), 0);
                        x.tick(1);
                    }
                    Check.due("jobs done", x.port(p, 4), 1);
                    Check.due("left without a job", x.port(p, 1), -1);
                    Check.due("answers in the port", x.port(p, 2), 1);
                    Check.due("answers in the box", x.master(0, 1), 0);
                    x.tick(1);
                    Check.due("answers in the box a tick later", x.master(0, 1), 1);
                }
            }
        }
    }

    private static void mastersTakeTurns() {
        for (int p = 0; p < 4; p++) {
            MessageCrossbar x = new MessageCrossbar();
            for (int m = 2; m >= 0; m--) {
                Check.get(x, m, m, PLACES[p]);
                Check.get(x, m, m + 3, PLACES[p]);
            }
            x.tick(100);
            int[] order = {0, 9, 18, 3, 12, 21};
            for (int i = 0; i < 6; i++) {
                Check.due("done in turn " + i, x.done(5 - i), 64 * p + order[i]);
            }
        }
    }

    private static void turnGoesOnBehindTheLatest() {
        MessageCrossbar x = new MessageCrossbar();
        Check.get(x, 1, 0, 256);
        x.tick(20);
        Check.get(x, 0, 0, 256);
        Check.get(x, 1, 1, 256);
        Check.get(x, 2, 0, 256);
        Check.get(x, 0, 1, 0);
        x.tick(1);
        Check.due("behind master 1 comes master 2", x.owner(1, 0), 16);
        x.tick(1);
        Check.due("behind master 2 comes master 0", x.owner(1, 1), 0);
        x.tick(1);
        Check.due("another port's turns are its own", x.owner(0, 0), 1);
    }

    /** All ports hold an answer for one master, which then accepts. */
    private static MessageCrossbar answersInAllPorts(int m) {
        MessageCrossbar x = new MessageCrossbar();
        x.accept(m, false);
        for (int p = 3; p >= 0; p--) {
            Check.get(x, m, p, PLACES[p]);
            Check.get(x, m, p + 4, PLACES[p]);
        }
        x.tick(50);
        x.accept(m, true);
        return x;
    }

    private static void portsTakeTurns() {
        for (int m = 0; m < 3; m++) {
            MessageCrossbar x = answersInAllPorts(m);
            for (int i = 0; i < 8; i++) {
                x.tick(1);
                int denied = i % 4 == 3 ? 32 : 0;
                Check.due("answer in turn " + i, x.take(m), denied + i);
            }
            Check.get(x, m, 2, PLACES[2]);
            x.tick(20);
            x.take(m);
            x.accept(m, false);
            for (int p = 0; p < 4; p++) {
                Check.get(x, m, p, PLACES[p]);
            }
            x.tick(20);
            x.accept(m, true);
            x.tick(4);
            for (int source : new int[] {35, 0, 1, 2}) {
                Check.due("answer behind port 2", x.take(m), source);
            }
        }
    }

    private static void masterGivesToRisingPortsInOneTick() {
        MessageCrossbar rising = new MessageCrossbar();
        MessageCrossbar falling = new MessageCrossbar();
        for (int p = 0; p < 4; p++) {
            Check.get(rising, 0, p, PLACES[p]);
            Check.get(falling, 0, p, PLACES[3 - p]);
        }
        rising.tick(1);
        Check.due("rising requests that left", rising.count(2), 4);
        falling.tick(1);
        Check.due("falling requests that left", falling.count(2), 1);
        Check.get(rising, 1, 0, 0);
        Check.get(rising, 1, 1, 0);
        rising.tick(1);
        Check.due("one request a port in a tick", rising.count(2), 5);
    }

    private static int boxedOfTwoAnswers(int first, int second) {
        MessageCrossbar x = new MessageCrossbar();
        x.accept(first, false);
        x.accept(second, false);
        Check.get(x, first, 0, 256);
        x.tick(1);
        Check.get(x, second, 0, 256);
        x.tick(20);
        x.accept(first, true);
        x.accept(second, true);
        x.tick(1);
        return x.count(4);
    }

    private static void portAnswersRisingMastersInOneTick() {
        Check.due("answers for masters 0, 1", boxedOfTwoAnswers(0, 1), 2);
        Check.due("answers for masters 0, 2", boxedOfTwoAnswers(0, 2), 2);
        Check.due("answers for masters 1, 2", boxedOfTwoAnswers(1, 2), 2);
        Check.due("answers for masters 1, 0", boxedOfTwoAnswers(1, 0), 1);
        Check.due("answers for masters 2, 1", boxedOfTwoAnswers(2, 1), 1);
    }

    private static void portHoldsTwoRequestsAndFourIds() {
        MessageCrossbar x = new MessageCrossbar();
        for (int source = 0; source < 8; source++) {
            x.request(0, source, Check.PUT, 3, 256, 0, 0);
        }
        x.tick(10);
        Check.due("requests in the port", x.port(1, 0), 2);
        Check.due("ids in use", x.port(1, 3), 3);
        Check.due("requests that wait", x.master(0, 0), 5);
        x.accept(0, false);
        x.tick(50);
        Check.due("requests in the port, four ids in use", x.port(1, 0), 1);
        Check.due("ids in use by answers, too", x.port(1, 3), 4);
        Check.due("requests that still wait", x.master(0, 0), 4);
    }

    private static void boxHoldsFour() {
        MessageCrossbar x = new MessageCrossbar();
        for (int source = 0; source < 8; source++) {
            Check.get(x, 1, source, 640);
        }
        x.tick(100);
        Check.due("answers in the box", x.master(1, 1), 4);
        Check.due("answers in the port", x.port(3, 2), 2);
        Check.due("ticks left", x.port(3, 1), 0);
        x.take(1);
        x.tick(1);
        Check.due("answers in the box again", x.master(1, 1), 4);
        Check.due("answers in the port again", x.port(3, 2), 2);
        Check.due("the last job begins", x.port(3, 1), 2);
    }

    private static void nextJobBeginsInTheTickOfTheLast() {
        MessageCrossbar x = new MessageCrossbar();
        Check.get(x, 0, 0, 256);
        Check.get(x, 0, 1, 256);
        x.tick(3);
        Check.due("ticks left of the first job", x.port(1, 1), 1);
        x.tick(1);
        Check.due("jobs done", x.port(1, 4), 1);
        Check.due("ticks left of the second job", x.port(1, 1), 2);
        x.tick(2);
        Check.due("jobs done two ticks later", x.port(1, 4), 2);
    }

    private static void firstRequestHoldsUpTheOthers() {
        MessageCrossbar x = new MessageCrossbar();
        x.accept(0, false);
        for (int source = 0; source < 5; source++) {
            Check.get(x, 0, source, 0);
        }
        Check.get(x, 0, 5, 512);
        x.tick(100);
        Check.due("the first one waits for an id", x.master(0, 0), 2);
        Check.due("the one behind it waits with it", x.port(2, 3), 0);
    }

    private static void manyTicksAreAsOneByOne() {
        for (int n : new int[] {2, 3, 7, 40, 400}) {
            MessageCrossbar many = answersInAllPorts(2);
            MessageCrossbar single = answersInAllPorts(2);
            many.request(0, 1, Check.PUT, 3, 256, 5, 0);
            single.request(0, 1, Check.PUT, 3, 256, 5, 0);
            many.tick(n);
            for (int i = 0; i < n; i++) {
                single.tick(1);
            }
            for (int what = 0; what < 8; what++) {
                Check.due("count(" + what + ") after " + n, many.count(what), single.count(what));
            }
            for (int what = 0; what < 5; what++) {
                Check.due("port(1, " + what + ") after " + n, many.port(1, what), single.port(1, what));
            }
        }
    }
}
