/** The edges of promise 12: count. */
public final class Edges12CountTest {
    public static void main(String[] args) {
        ticksFromNoneOn();
        toldAndNotRefused();
        leftTheirMasters();
        jobsDoneOfAllPorts();
        cameIntoBoxes();
        takenAndDenied();
        everyKindOfMoveAlone();
        stillTicksAtRest();
        stillTicksBehindAFullBox();
        noneForOthers();
        Check.end();
    }

    /** "what = 0 ticks" */
    private static void ticksFromNoneOn() {
        MessageCrossbar x = new MessageCrossbar();
        Check.due("at first", x.count(0), 0);
        x.tick(0);
        Check.due("after tick(0)", x.count(0), 0);
        x.tick(1);
        Check.due("after tick(1)", x.count(0), 1);
        x.tick(10000);
        Check.due("after tick(10000)", x.count(0), 10001);
        Check.refused("tick(10001)", Check.ARGUMENT, () -> x.tick(10001));
        Check.refused("tick(-1)", Check.ARGUMENT, () -> x.tick(-1));
        Check.due("after refused ones", x.count(0), 10001);
    }

    /** "1 requests told (and not refused)" */
    private static void toldAndNotRefused() {
        MessageCrossbar x = new MessageCrossbar();
        for (int m = 0; m < 3; m++) {
            for (int source = 0; source < 8; source++) {
                Check.due("told", x.count(1), 8 * m + source);
                Check.get(x, m, source, 1023);
            }
            for (int source = 0; source < 8; source++) {
                Check.due("in flight", Check.get(x, m, source, 0), -1);
            }
        }
        Check.refused("request of master 3", Check.ARGUMENT, () -> Check.get(x, 3, 0, 0));
        Check.refused("request at 1024", Check.ARGUMENT, () -> Check.get(x, 0, 0, 1024));
        Check.due("all told", x.count(1), 24);
        x.tick(10000);
        x.take(0);
        Check.due("after a take", x.count(1), 24);
        Check.get(x, 0, 0, 0);
        Check.due("told again", x.count(1), 25);
    }

    /** "2 those that left their masters" */
    private static void leftTheirMasters() {
        MessageCrossbar x = new MessageCrossbar();
        x.accept(0, false);
        for (int source = 0; source < 8; source++) {
            Check.get(x, 0, source, 640);
        }
        Check.due("while all wait", x.count(2), 0);
        for (int left = 1; left <= 4; left++) {
            x.tick(1);
            Check.due("left", x.count(2), left);
        }
        x.tick(1000);
        Check.due("left when four ids are in use", x.count(2), 4);
        Check.due("waiting then", x.master(0, 0), 4);
    }

    /** "3 jobs done" */
    private static void jobsDoneOfAllPorts() {
        MessageCrossbar x = new MessageCrossbar();
        for (int n = 0; n < 40; n++) {
            Check.due("jobs done", x.count(3), n);
            Check.get(x, n % 3, 0, Check.PLACES[n % 4]);
            x.tick(10);
            x.take(n % 3);
        }
        Check.due("jobs done at last", x.count(3), 40);
        for (int p = 0; p < 4; p++) {
            Check.due("of port " + p, x.port(p, 4), 10);
        }
    }

    /** "4 answers that came into boxes" */
    private static void cameIntoBoxes() {
        MessageCrossbar x = new MessageCrossbar();
        for (int source = 0; source < 5; source++) {
            Check.get(x, 2, source, 640);
        }
        x.tick(4);
        Check.due("the first one in the port", x.count(4), 0);
        x.tick(1);
        Check.due("the first one in the box", x.count(4), 1);
        x.tick(100);
        Check.due("a full box", x.count(4), 4);
        x.take(2);
        Check.due("after a take", x.count(4), 4);
        x.tick(1);
        Check.due("the fifth one", x.count(4), 5);
    }

    /** "5 answers taken, 6 of these denied" */
    private static void takenAndDenied() {
        MessageCrossbar x = new MessageCrossbar();
        x.request(0, 0, Check.GET, 0, 639, 0, 0);
        x.request(0, 1, Check.GET, 0, 640, 0, 0);
        x.request(0, 2, Check.PUT, 0, 1023, 0, 0);
        x.request(0, 3, Check.PARTIAL, 0, 0, 0, 0);
        x.tick(50);
        Check.due("taken of a full box", x.count(5), 0);
        Check.due("denied of a full box", x.count(6), 0);
        int denied = 0;
        for (int taken = 1; taken <= 4; taken++) {
            denied += x.take(0) >= 32 ? 1 : 0;
            Check.due("taken", x.count(5), taken);
            Check.due("of these denied", x.count(6), denied);
        }
        Check.due("denied in all", denied, 2);
        x.take(0);
        Check.refused("take(3)", Check.ARGUMENT, () -> x.take(3));
        Check.due("taken after takes of none", x.count(5), 4);
        Check.due("denied after takes of none", x.count(6), 2);
    }

    /** "7 ticks in which nothing moved (no answer, no job done or begun, no request)" */
    private static void everyKindOfMoveAlone() {
        int[] ticks = {3, 2, 4, 2};
        for (int p = 0; p < 4; p++) {
            MessageCrossbar x = new MessageCrossbar();
            x.tick(1);
            Check.due("nothing at all", x.count(7), 1);
            Check.get(x, 0, 0, Check.PLACES[p]);
            x.tick(1);
            Check.due("a request alone", x.count(7), 1);
            x.tick(1);
            Check.due("a job begun alone", x.count(7), 1);
            for (int still = 1; still < ticks[p]; still++) {
                x.tick(1);
                Check.due("a job that goes on", x.count(7), 1 + still);
            }
            x.tick(1);
            Check.due("a job done alone", x.count(7), ticks[p]);
            x.tick(1);
            Check.due("an answer alone", x.count(7), ticks[p]);
            x.tick(1);
            Check.due("nothing again", x.count(7), ticks[p] + 1);
            x.take(0);
            x.accept(0, false);
            Check.due("calls are no ticks", x.count(7), ticks[p] + 1);
        }
    }

    /** The same: the most that one call can tell. */
    private static void stillTicksAtRest() {
        MessageCrossbar x = new MessageCrossbar();
        x.tick(0);
        Check.due("after tick(0)", x.count(7), 0);
        x.tick(10000);
        Check.due("after tick(10000)", x.count(7), 10000);
        Check.refused("tick(10001)", Check.ARGUMENT, () -> x.tick(10001));
        Check.due("after a refused one", x.count(7), 10000);
    }

    /** The same: something is everywhere, and nothing can move. */
    private static void stillTicksBehindAFullBox() {
        MessageCrossbar x = new MessageCrossbar();
        for (int source = 0; source < 8; source++) {
            Check.get(x, 0, source, 640);
        }
        x.tick(100);
        Check.due("in the box", x.master(0, 1), 4);
        Check.due("in the port", x.port(3, 2), 2);
        Check.due("left", x.port(3, 1), 0);
        int still = x.count(7);
        x.tick(1);
        Check.due("a tick more", x.count(7), still + 1);
        x.tick(10000);
        Check.due("10000 ticks more", x.count(7), still + 10001);
        x.take(0);
        x.tick(1);
        Check.due("a tick with room in the box", x.count(7), still + 10001);
    }

    /** "NONE for others" */
    private static void noneForOthers() {
        MessageCrossbar x = Check.busy();
        String before = Check.seen(x);
        for (int what : new int[] {-1, -2, -8, 8, 9, 16, 1 << 16, Integer.MIN_VALUE, Integer.MAX_VALUE}) {
            Check.due("count(" + what + ")", x.count(what), -1);
        }
        Check.due("what is seen", Check.seen(x), before);
        MessageCrossbar empty = new MessageCrossbar();
        Check.due("count(0)", empty.count(0), 0);
        Check.due("count(7)", empty.count(7), 0);
    }
}
